def d_X1_agreesWith_2  : Nat → Nat → Int32 → Int32 → ZS → Option (Int32 × ZS)
  | 0 => fun _ _ _ _ => none
  | n + 1 => d_X1_agreesWith_2s  (d_X1_agreesWith_2  n)
theorem tt_X1_agreesWith_2 {Pw : Int32 → ZS → Prop}   {n : Nat} : ∀ {z0 : Nat} {z1 : Int32} {z2 : Int32} {S : ZS}, Tw Pw (d_X1_agreesWith_2  n z0 z1 z2 S) (zt S) (zu S) (fun C T => g_X1_agreesWith_2 Pw  n z0 z1 z2 S C T) := by
  induction n with
  | zero => intro z0 z1 z2 S; exact tw_none
  | succ n ih => intro z0 z1 z2 S; exact tt_X1_agreesWith_2s  (fun _ _ _ _ => ih)
def d_X1_agreesWith_0 (x0 : Nat) (x1 : Int32) (S : ZS) : Option (Int32 × ZS) :=
  d_X1_agreesWith_2 mFuel x0 x1 (0 : Int32) S
theorem tt_X1_agreesWith_0 {Pw : Int32 → ZS → Prop}   {x0 : Nat} {x1 : Int32} {S : ZS} : Tw Pw (d_X1_agreesWith_0 x0 x1 S) (zt S) (zu S) (fun C T => g_X1_agreesWith_0 Pw x0 x1 S C T) := by
  unfold d_X1_agreesWith_0 g_X1_agreesWith_0
  exact tw_at (⟨rfl, rfl⟩ : zt S = zt S ∧ zu S = zu S) (tt_X1_agreesWith_2)
def d_X1_agreesWith (x0 : Nat) (x1 : Int32) (S : ZS) : Option (Int32 × ZS) := d_X1_agreesWith_0 x0 x1 S
theorem tt_X1_agreesWith {Pw : Int32 → ZS → Prop} {x0 : Nat} {x1 : Int32} {S : ZS} : Tw Pw (d_X1_agreesWith x0 x1 S) (zt S) (zu S) (fun C T => g_X1_agreesWith x0 x1 S C T Pw) := tt_X1_agreesWith_0
def d_X7_init_0 (x0 : Nat) (S : ZS) : Option (Int32 × ZS) :=
  m_bnd (zt S) (fun q1 =>
  m_bnd (zsNewO S q1 0 7) (fun S2 =>
  m_cal2 (d_X0_init q1 S2) (fun r6 S7 =>
  m_chk (zK S7 x0 = 7) (
  m_bnd (zsP S7 0 x0 (some q1)) (fun S10 =>
  m_bnd (zt S10) (fun q11 =>
  m_bnd (zsNewO S10 q11 0 7) (fun S12 =>
  m_cal2 (d_X0_init q11 S12) (fun r16 S17 =>
  m_chk (zK S17 x0 = 7) (
  m_bnd (zsP S17 1 x0 (some q11)) (fun S20 =>
  some (0, S20)))))))))))
theorem tt_X7_init_0 {Pw : Int32 → ZS → Prop}   {x0 : Nat} {S : ZS} : Tw Pw (d_X7_init_0 x0 S) (zt S) (zu S) (fun C T => g_X7_init_0 Pw x0 S C T) := by
  unfold d_X7_init_0 g_X7_init_0
  refine tw_new (fun _ => ⟨congrArg (· + 1) (⟨rfl, rfl⟩ : zt S = zt S ∧ zu S = zu S).1, congrArg (· + _) (⟨rfl, rfl⟩ : zt S = zt S ∧ zu S = zu S).2⟩) (fun q1 S2 cS2 => ?_)
  refine tw_gal (fun Pw9 => tw_at cS2 tt_X0_init) (fun r6 S7 => ?_)
  refine tw_chk (fun _ => ?_)
  refine tw_bnds (⟨rfl, rfl⟩ : zt S7 = zt S7 ∧ zu S7 = zu S7) (fun S10 cS10 => ?_)
  refine tw_new (fun _ => ⟨congrArg (· + 1) cS10.1, congrArg (· + _) cS10.2⟩) (fun q11 S12 cS12 => ?_)
  refine tw_gal (fun Pw9 => tw_at cS12 tt_X0_init) (fun r16 S17 => ?_)
  refine tw_chk (fun _ => ?_)
  refine tw_bnds (⟨rfl, rfl⟩ : zt S17 = zt S17 ∧ zu S17 = zu S17) (fun S20 cS20 => ?_)
  exact tw_ret cS20
def d_X7_init (x0 : Nat) (S : ZS) : Option (Int32 × ZS) := d_X7_init_0 x0 S
theorem tt_X7_init {Pw : Int32 → ZS → Prop} {x0 : Nat} {S : ZS} : Tw Pw (d_X7_init x0 S) (zt S) (zu S) (fun C T => g_X7_init x0 S C T Pw) := tt_X7_init_0
def d_X8_init_0 (x0 : Nat) (S : ZS) : Option (Int32 × ZS) :=
  m_bnd (zt S) (fun q1 =>
  m_bnd (zsNewO S q1 7 2) (fun S2 =>
  m_cal2 (d_X7_init q1 S2) (fun r6 S7 =>
  m_chk (zK S7 x0 = 8) (
  m_bnd (zsP S7 0 x0 (some q1)) (fun S10 =>
  m_bnd (zt S10) (fun q11 =>
  m_bnd (zsNewO S10 q11 6 2) (fun S12 =>
  m_cal (f_X6_init q11 S12) (fun o15 => m_chk (zt o15.2 = zt S12 ∧ zu o15.2 = zu S12) (
  m_chk (zK o15.2 x0 = 8) (
  m_bnd (zsP o15.2 1 x0 (some q11)) (fun S16 =>
  m_chk (¬ (64 : Int32) < 0 ∧ ((64 : Int32)).toNatClampNeg * componentBytes .int ≤ 536870912) (
  m_bnd (zt S16) (fun q17 =>
  m_bnd (zsNewA S16 q17 14 ((64 : Int32)).toNatClampNeg) (fun S18 =>
  m_chk (zK S18 x0 = 8) (
  m_bnd (zsP S18 10 x0 (some q17)) (fun S21 =>
  some (0, S21)))))))))))))))))
theorem tt_X8_init_0 {Pw : Int32 → ZS → Prop}   {x0 : Nat} {S : ZS} : Tw Pw (d_X8_init_0 x0 S) (zt S) (zu S) (fun C T => g_X8_init_0 Pw x0 S C T) := by
  unfold d_X8_init_0 g_X8_init_0
  refine tw_new (fun _ => ⟨congrArg (· + 1) (⟨rfl, rfl⟩ : zt S = zt S ∧ zu S = zu S).1, congrArg (· + _) (⟨rfl, rfl⟩ : zt S = zt S ∧ zu S = zu S).2⟩) (fun q1 S2 cS2 => ?_)
  refine tw_gal (fun Pw9 => tw_at cS2 tt_X7_init) (fun r6 S7 => ?_)
  refine tw_chk (fun _ => ?_)
  refine tw_bnds (⟨rfl, rfl⟩ : zt S7 = zt S7 ∧ zu S7 = zu S7) (fun S10 cS10 => ?_)
  refine tw_new (fun _ => ⟨congrArg (· + 1) cS10.1, congrArg (· + _) cS10.2⟩) (fun q11 S12 cS12 => ?_)
  refine tw_calf cS12 (fun o15 co15 => ?_)
  refine tw_chk (fun _ => ?_)
  refine tw_bnds co15 (fun S16 cS16 => ?_)
  refine tw_chk (fun _ => ?_)
  refine tw_new (fun _ => ⟨congrArg (· + 1) cS16.1, congrArg (· + _) cS16.2⟩) (fun q17 S18 cS18 => ?_)
  refine tw_chk (fun _ => ?_)
  refine tw_bnds cS18 (fun S21 cS21 => ?_)
  exact tw_ret cS21
def d_X8_init (x0 : Nat) (S : ZS) : Option (Int32 × ZS) := d_X8_init_0 x0 S
theorem tt_X8_init {Pw : Int32 → ZS → Prop} {x0 : Nat} {S : ZS} : Tw Pw (d_X8_init x0 S) (zt S) (zu S) (fun C T => g_X8_init x0 S C T Pw) := tt_X8_init_0
def d_X5_init_0 (x0 : Nat) (S : ZS) : Option (Int32 × ZS) :=
  m_bnd (zt S) (fun q1 =>
  m_bnd (zsNewO S q1 6 2) (fun S2 =>
  m_cal (f_X6_init q1 S2) (fun o5 => m_chk (zt o5.2 = zt S2 ∧ zu o5.2 = zu S2) (
  m_chk (zK o5.2 x0 = 5) (
  m_bnd (zsP o5.2 0 x0 (some q1)) (fun S6 =>
  m_chk (zK S6 x0 = 5) (
  m_bnd (zsI S6 1 x0 (0 : Int32)) (fun S7 =>
  some (0, S7)))))))))
theorem tt_X5_init_0 {Pw : Int32 → ZS → Prop}   {x0 : Nat} {S : ZS} : Tw Pw (d_X5_init_0 x0 S) (zt S) (zu S) (fun C T => g_X5_init_0 Pw x0 S C T) := by
  unfold d_X5_init_0 g_X5_init_0
  refine tw_new (fun _ => ⟨congrArg (· + 1) (⟨rfl, rfl⟩ : zt S = zt S ∧ zu S = zu S).1, congrArg (· + _) (⟨rfl, rfl⟩ : zt S = zt S ∧ zu S = zu S).2⟩) (fun q1 S2 cS2 => ?_)
  refine tw_calf cS2 (fun o5 co5 => ?_)
  refine tw_chk (fun _ => ?_)
  refine tw_bnds co5 (fun S6 cS6 => ?_)
  refine tw_chk (fun _ => ?_)
  refine tw_bnds cS6 (fun S7 cS7 => ?_)
  exact tw_ret cS7
def d_X5_init (x0 : Nat) (S : ZS) : Option (Int32 × ZS) := d_X5_init_0 x0 S
theorem tt_X5_init {Pw : Int32 → ZS → Prop} {x0 : Nat} {S : ZS} : Tw Pw (d_X5_init x0 S) (zt S) (zu S) (fun C T => g_X5_init x0 S C T Pw) := tt_X5_init_0
def d_X2_init_116s (self116 : Nat → Int32 → ZS → Option (Int32 × ZS)) (x0 : Nat) (x1 : Int32) (S : ZS) : Option (Int32 × ZS) :=
  m_if ((6 : Int32) < x1) (
  some (0, S)
  ) (
  m_chk (zK S x0 = 2) (
  m_cal (zP S 10 x0) (fun b1 =>
  m_bnd (zt S) (fun q2 =>
  m_bnd (zsNewO S q2 0 7) (fun S3 =>
  m_cal2 (d_X0_init q2 S3) (fun r7 S8 =>
  m_chk (zK S8 b1 = 15) (
  m_chk (zK S8 q2 = 0) (
  m_chk (¬ (x1 < 0 ∨ zN S8 b1 ≤ (x1).toNatClampNeg)) (
  m_bnd (zsB S8 b1 (x1).toNatClampNeg (some q2)) (fun S11 =>
  m_chk (zK S11 x0 = 2) (
  m_cal (zP S11 11 x0) (fun b12 =>
  m_bnd (zt S11) (fun q13 =>
  m_bnd (zsNewO S11 q13 0 7) (fun S14 =>
  m_cal2 (d_X0_init q13 S14) (fun r18 S19 =>
  m_chk (zK S19 b12 = 15) (
  m_chk (zK S19 q13 = 0) (
  m_chk (¬ (x1 < 0 ∨ zN S19 b12 ≤ (x1).toNatClampNeg)) (
  m_bnd (zsB S19 b12 (x1).toNatClampNeg (some q13)) (fun S22 =>
  m_bnd (x1 + (1 : Int32)) (fun v23 =>
  self116 x0 v23 S22)))))))))))))))))))
  )
theorem tt_X2_init_116s {Pw : Int32 → ZS → Prop} {self116 : Nat → Int32 → ZS → Option (Int32 × ZS)} {self116g : Nat → Int32 → ZS → Nat → Nat → Prop} (hself116 : ∀ (y0 : Nat) (y1 : Int32) (S : ZS), Tw Pw (self116 y0 y1 S) (zt S) (zu S) (fun C T => self116g y0 y1 S C T)) {x0 : Nat} {x1 : Int32} {S : ZS} : Tw Pw (d_X2_init_116s self116 x0 x1 S) (zt S) (zu S) (fun C T => g_X2_init_116s Pw self116g x0 x1 S C T) := by
  unfold d_X2_init_116s g_X2_init_116s
  refine tw_if (fun _ => ?_) (fun _ => ?_)
  ·
    exact tw_ret (⟨rfl, rfl⟩ : zt S = zt S ∧ zu S = zu S)
  ·
    refine tw_chk (fun _ => ?_)
    refine tw_calv (fun b1 => ?_)
    refine tw_new (fun _ => ⟨congrArg (· + 1) (⟨rfl, rfl⟩ : zt S = zt S ∧ zu S = zu S).1, congrArg (· + _) (⟨rfl, rfl⟩ : zt S = zt S ∧ zu S = zu S).2⟩) (fun q2 S3 cS3 => ?_)
    refine tw_gal (fun Pw9 => tw_at cS3 tt_X0_init) (fun r7 S8 => ?_)
    refine tw_chk (fun _ => ?_)
    refine tw_chk (fun _ => ?_)
    refine tw_chk (fun _ => ?_)
    refine tw_bnds (⟨rfl, rfl⟩ : zt S8 = zt S8 ∧ zu S8 = zu S8) (fun S11 cS11 => ?_)
    refine tw_chk (fun _ => ?_)
    refine tw_calv (fun b12 => ?_)
    refine tw_new (fun _ => ⟨congrArg (· + 1) cS11.1, congrArg (· + _) cS11.2⟩) (fun q13 S14 cS14 => ?_)
    refine tw_gal (fun Pw9 => tw_at cS14 tt_X0_init) (fun r18 S19 => ?_)
    refine tw_chk (fun _ => ?_)
    refine tw_chk (fun _ => ?_)
    refine tw_chk (fun _ => ?_)
    refine tw_bnds (⟨rfl, rfl⟩ : zt S19 = zt S19 ∧ zu S19 = zu S19) (fun S22 cS22 => ?_)
    refine tw_bndv (fun v23 => ?_)
    exact tw_at cS22 (hself116 _ _ _)
def d_X2_init_116  : Nat → Nat → Int32 → ZS → Option (Int32 × ZS)
  | 0 => fun _ _ _ => none
  | n + 1 => d_X2_init_116s  (d_X2_init_116  n)
theorem tt_X2_init_116 {Pw : Int32 → ZS → Prop}   {n : Nat} : ∀ {z0 : Nat} {z1 : Int32} {S : ZS}, Tw Pw (d_X2_init_116  n z0 z1 S) (zt S) (zu S) (fun C T => g_X2_init_116 Pw  n z0 z1 S C T) := by
  induction n with
  | zero => intro z0 z1 S; exact tw_none
  | succ n ih => intro z0 z1 S; exact tt_X2_init_116s  (fun _ _ _ => ih)
def d_X2_init_0 (x0 : Nat) (S : ZS) : Option (Int32 × ZS) :=
  m_bnd (zt S) (fun q1 =>
  m_bnd (zsNewO S q1 8 12) (fun S2 =>
  m_cal2 (d_X8_init q1 S2) (fun r6 S7 =>
  m_chk (zK S7 x0 = 2) (
  m_bnd (zsP S7 0 x0 (some q1)) (fun S10 =>
  m_bnd (zt S10) (fun q11 =>
  m_bnd (zsNewO S10 q11 5 2) (fun S12 =>
  m_cal2 (d_X5_init q11 S12) (fun r16 S17 =>
  m_chk (zK S17 x0 = 2) (
  m_bnd (zsP S17 1 x0 (some q11)) (fun S20 =>
  m_bnd (zt S20) (fun q21 =>
  m_bnd (zsNewO S20 q21 6 2) (fun S22 =>
  m_cal (f_X6_init q21 S22) (fun o25 => m_chk (zt o25.2 = zt S22 ∧ zu o25.2 = zu S22) (
  m_chk (zK o25.2 x0 = 2) (
  m_bnd (zsP o25.2 2 x0 (some q21)) (fun S26 =>
  m_bnd (zt S26) (fun q27 =>
  m_bnd (zsNewO S26 q27 1 8) (fun S28 =>
  m_cal2 (d_X1_init q27 S28) (fun r32 S33 =>
  m_chk (zK S33 x0 = 2) (
  m_bnd (zsP S33 3 x0 (some q27)) (fun S36 =>
  m_chk (zK S36 x0 = 2) (
  m_bnd (zsI S36 4 x0 (0 : Int32)) (fun S37 =>
  m_chk (zK S37 x0 = 2) (
  m_bnd (zsI S37 5 x0 (0 : Int32)) (fun S38 =>
  m_bnd (zt S38) (fun q39 =>
  m_bnd (zsNewO S38 q39 6 2) (fun S40 =>
  m_cal (f_X6_init q39 S40) (fun o43 => m_chk (zt o43.2 = zt S40 ∧ zu o43.2 = zu S40) (
  m_chk (zK o43.2 x0 = 2) (
  m_bnd (zsP o43.2 6 x0 (some q39)) (fun S44 =>
  m_bnd (zt S44) (fun q45 =>
  m_bnd (zsNewO S44 q45 6 2) (fun S46 =>
  m_cal (f_X6_init q45 S46) (fun o49 => m_chk (zt o49.2 = zt S46 ∧ zu o49.2 = zu S46) (
  m_chk (zK o49.2 x0 = 2) (
  m_bnd (zsP o49.2 7 x0 (some q45)) (fun S50 =>
  m_chk (¬ (7 : Int32) < 0 ∧ ((7 : Int32)).toNatClampNeg * componentBytes .int ≤ 536870912) (
  m_bnd (zt S50) (fun q51 =>
  m_bnd (zsNewA S50 q51 14 ((7 : Int32)).toNatClampNeg) (fun S52 =>
  m_chk (zK S52 x0 = 2) (
  m_bnd (zsP S52 8 x0 (some q51)) (fun S55 =>
  m_chk (¬ (7 : Int32) < 0 ∧ ((7 : Int32)).toNatClampNeg * componentBytes .int ≤ 536870912) (
  m_bnd (zt S55) (fun q56 =>
  m_bnd (zsNewA S55 q56 14 ((7 : Int32)).toNatClampNeg) (fun S57 =>
  m_chk (zK S57 x0 = 2) (
  m_bnd (zsP S57 9 x0 (some q56)) (fun S60 =>
  m_chk (¬ (7 : Int32) < 0 ∧ ((7 : Int32)).toNatClampNeg * 4 ≤ 536870912) (
  m_bnd (zt S60) (fun q61 =>
  m_bnd (zsNewA S60 q61 15 ((7 : Int32)).toNatClampNeg) (fun S62 =>
  m_chk (zK S62 x0 = 2) (
  m_bnd (zsP S62 10 x0 (some q61)) (fun S65 =>
  m_chk (¬ (7 : Int32) < 0 ∧ ((7 : Int32)).toNatClampNeg * 4 ≤ 536870912) (
  m_bnd (zt S65) (fun q66 =>
  m_bnd (zsNewA S65 q66 15 ((7 : Int32)).toNatClampNeg) (fun S67 =>
  m_chk (zK S67 x0 = 2) (
  m_bnd (zsP S67 11 x0 (some q66)) (fun S70 =>
  d_X2_init_116 mFuel x0 (0 : Int32) S70)))))))))))))))))))))))))))))))))))))))))))))))))))))))))
theorem tt_X2_init_0 {Pw : Int32 → ZS → Prop}   {x0 : Nat} {S : ZS} : Tw Pw (d_X2_init_0 x0 S) (zt S) (zu S) (fun C T => g_X2_init_0 Pw x0 S C T) := by
  unfold d_X2_init_0 g_X2_init_0
  refine tw_new (fun _ => ⟨congrArg (· + 1) (⟨rfl, rfl⟩ : zt S = zt S ∧ zu S = zu S).1, congrArg (· + _) (⟨rfl, rfl⟩ : zt S = zt S ∧ zu S = zu S).2⟩) (fun q1 S2 cS2 => ?_)
  refine tw_gal (fun Pw9 => tw_at cS2 tt_X8_init) (fun r6 S7 => ?_)
  refine tw_chk (fun _ => ?_)
  refine tw_bnds (⟨rfl, rfl⟩ : zt S7 = zt S7 ∧ zu S7 = zu S7) (fun S10 cS10 => ?_)
  refine tw_new (fun _ => ⟨congrArg (· + 1) cS10.1, congrArg (· + _) cS10.2⟩) (fun q11 S12 cS12 => ?_)
  refine tw_gal (fun Pw9 => tw_at cS12 tt_X5_init) (fun r16 S17 => ?_)
  refine tw_chk (fun _ => ?_)
  refine tw_bnds (⟨rfl, rfl⟩ : zt S17 = zt S17 ∧ zu S17 = zu S17) (fun S20 cS20 => ?_)
  refine tw_new (fun _ => ⟨congrArg (· + 1) cS20.1, congrArg (· + _) cS20.2⟩) (fun q21 S22 cS22 => ?_)
  refine tw_calf cS22 (fun o25 co25 => ?_)
  refine tw_chk (fun _ => ?_)
  refine tw_bnds co25 (fun S26 cS26 => ?_)
  refine tw_new (fun _ => ⟨congrArg (· + 1) cS26.1, congrArg (· + _) cS26.2⟩) (fun q27 S28 cS28 => ?_)
  refine tw_gal (fun Pw9 => tw_at cS28 tt_X1_init) (fun r32 S33 => ?_)
  refine tw_chk (fun _ => ?_)
  refine tw_bnds (⟨rfl, rfl⟩ : zt S33 = zt S33 ∧ zu S33 = zu S33) (fun S36 cS36 => ?_)
  refine tw_chk (fun _ => ?_)
  refine tw_bnds cS36 (fun S37 cS37 => ?_)
  refine tw_chk (fun _ => ?_)
  refine tw_bnds cS37 (fun S38 cS38 => ?_)
  refine tw_new (fun _ => ⟨congrArg (· + 1) cS38.1, congrArg (· + _) cS38.2⟩) (fun q39 S40 cS40 => ?_)
  refine tw_calf cS40 (fun o43 co43 => ?_)
  refine tw_chk (fun _ => ?_)
  refine tw_bnds co43 (fun S44 cS44 => ?_)
  refine tw_new (fun _ => ⟨congrArg (· + 1) cS44.1, congrArg (· + _) cS44.2⟩) (fun q45 S46 cS46 => ?_)
  refine tw_calf cS46 (fun o49 co49 => ?_)
  refine tw_chk (fun _ => ?_)
  refine tw_bnds co49 (fun S50 cS50 => ?_)
  refine tw_chk (fun _ => ?_)
  refine tw_new (fun _ => ⟨congrArg (· + 1) cS50.1, congrArg (· + _) cS50.2⟩) (fun q51 S52 cS52 => ?_)
  refine tw_chk (fun _ => ?_)
  refine tw_bnds cS52 (fun S55 cS55 => ?_)
  refine tw_chk (fun _ => ?_)
  refine tw_new (fun _ => ⟨congrArg (· + 1) cS55.1, congrArg (· + _) cS55.2⟩) (fun q56 S57 cS57 => ?_)
  refine tw_chk (fun _ => ?_)
  refine tw_bnds cS57 (fun S60 cS60 => ?_)
  refine tw_chk (fun _ => ?_)
  refine tw_new (fun _ => ⟨congrArg (· + 1) cS60.1, congrArg (· + _) cS60.2⟩) (fun q61 S62 cS62 => ?_)
  refine tw_chk (fun _ => ?_)
  refine tw_bnds cS62 (fun S65 cS65 => ?_)
  refine tw_chk (fun _ => ?_)
  refine tw_new (fun _ => ⟨congrArg (· + 1) cS65.1, congrArg (· + _) cS65.2⟩) (fun q66 S67 cS67 => ?_)
  refine tw_chk (fun _ => ?_)
  refine tw_bnds cS67 (fun S70 cS70 => ?_)
  exact tw_at cS70 (tt_X2_init_116)
def d_X2_init (x0 : Nat) (S : ZS) : Option (Int32 × ZS) := d_X2_init_0 x0 S
theorem tt_X2_init {Pw : Int32 → ZS → Prop} {x0 : Nat} {S : ZS} : Tw Pw (d_X2_init x0 S) (zt S) (zu S) (fun C T => g_X2_init x0 S C T Pw) := tt_X2_init_0
def d_X2_readName_128 (t0 : Int32) (S : ZS) : Option (Int32 × ZS) :=
  m_chk (vp_nar .boolean t0 = t0) (
  some (t0, S))
theorem tt_X2_readName_128 {Pw : Int32 → ZS → Prop}   {t0 : Int32} {S : ZS} : Tw Pw (d_X2_readName_128 t0 S) (zt S) (zu S) (fun C T => g_X2_readName_128 Pw t0 S C T) := by
  unfold d_X2_readName_128 g_X2_readName_128
  refine tw_chk (fun _ => ?_)
  exact tw_ret (⟨rfl, rfl⟩ : zt S = zt S ∧ zu S = zu S)
def d_X2_readName_123 (S : ZS) : Option (Int32 × ZS) :=
  d_X2_readName_128 (1 : Int32) S
theorem tt_X2_readName_123 {Pw : Int32 → ZS → Prop}   {S : ZS} : Tw Pw (d_X2_readName_123 S) (zt S) (zu S) (fun C T => g_X2_readName_123 Pw S C T) := by
  unfold d_X2_readName_123 g_X2_readName_123
  exact tw_at (⟨rfl, rfl⟩ : zt S = zt S ∧ zu S = zu S) (tt_X2_readName_128)
def d_X2_readName_101 (x0 : Nat) (S : ZS) : Option (Int32 × ZS) :=
  m_chk (zK S x0 = 2) (
  m_cal (zP S 6 x0) (fun b1 =>
  m_chk (zK S b1 = 6) (
  m_cal (f_X6_size b1 S) (fun o2 => m_chk (zt o2.2 = zt S ∧ zu o2.2 = zu S) (
  m_if (0 < o2.1) (
  d_X2_readName_123 o2.2
  ) (
  m_chk (zK o2.2 x0 = 2) (
  m_chk (zK o2.2 x0 = 2) (
  m_cal (f_X2_refuse x0 (1 : Int32) (zI o2.2 4 x0) o2.2) (fun o3 => m_chk (zt o3.2 = zt o2.2 ∧ zu o3.2 = zu o2.2) (
  m_if (o3.1 = 0) (
  d_X2_readName_128 (0 : Int32) o3.2
  ) (
  d_X2_readName_123 o3.2
  )))))
  ))))))
theorem tt_X2_readName_101 {Pw : Int32 → ZS → Prop}   {x0 : Nat} {S : ZS} : Tw Pw (d_X2_readName_101 x0 S) (zt S) (zu S) (fun C T => g_X2_readName_101 Pw x0 S C T) := by
  unfold d_X2_readName_101 g_X2_readName_101
  refine tw_chk (fun _ => ?_)
  refine tw_calv (fun b1 => ?_)
  refine tw_chk (fun _ => ?_)
  refine tw_calf (⟨rfl, rfl⟩ : zt S = zt S ∧ zu S = zu S) (fun o2 co2 => ?_)
  refine tw_if (fun _ => ?_) (fun _ => ?_)
  ·
    exact tw_at co2 (tt_X2_readName_123)
  ·
    refine tw_chk (fun _ => ?_)
    refine tw_chk (fun _ => ?_)
    refine tw_calf co2 (fun o3 co3 => ?_)
    refine tw_if (fun _ => ?_) (fun _ => ?_)
    ·
      exact tw_at co3 (tt_X2_readName_128)
    ·
      exact tw_at co3 (tt_X2_readName_123)
def d_X2_readName_70 (self22 : Nat → ZS → Option (Int32 × ZS)) (x0 : Nat) (S : ZS) : Option (Int32 × ZS) :=
  m_chk (zK S x0 = 2) (
  m_cal (zP S 6 x0) (fun b1 =>
  m_chk (zK S x0 = 2) (
  m_cal (zP S 2 x0) (fun b2 =>
  m_chk (zK S x0 = 2) (
  m_chk (zK S b2 = 6) (
  m_cal (f_X6_at b2 (zI S 4 x0) S) (fun o3 => m_chk (zt o3.2 = zt S ∧ zu o3.2 = zu S) (
  m_chk (zK o3.2 b1 = 6) (
  m_cal2 (d_X6_put b1 o3.1 o3.2) (fun r5 S6 =>
  m_chk (zK S6 x0 = 2) (
  m_bnd ((zI S6 4 x0) + (1 : Int32)) (fun v9 =>
  m_chk (zK S6 x0 = 2) (
  m_bnd (zsI S6 4 x0 v9) (fun S10 =>
  self22 x0 S10))))))))))))))
theorem tt_X2_readName_70 {Pw : Int32 → ZS → Prop} {self22 : Nat → ZS → Option (Int32 × ZS)} {self22g : Nat → ZS → Nat → Nat → Prop} (hself22 : ∀ (y0 : Nat) (S : ZS), Tw Pw (self22 y0 S) (zt S) (zu S) (fun C T => self22g y0 S C T)) {x0 : Nat} {S : ZS} : Tw Pw (d_X2_readName_70 self22 x0 S) (zt S) (zu S) (fun C T => g_X2_readName_70 Pw self22g x0 S C T) := by
  unfold d_X2_readName_70 g_X2_readName_70
  refine tw_chk (fun _ => ?_)
  refine tw_calv (fun b1 => ?_)
  refine tw_chk (fun _ => ?_)
  refine tw_calv (fun b2 => ?_)
  refine tw_chk (fun _ => ?_)
  refine tw_chk (fun _ => ?_)
  refine tw_calf (⟨rfl, rfl⟩ : zt S = zt S ∧ zu S = zu S) (fun o3 co3 => ?_)
  refine tw_chk (fun _ => ?_)
  refine tw_gal (fun Pw9 => tw_at co3 tt_X6_put) (fun r5 S6 => ?_)
  refine tw_chk (fun _ => ?_)
  refine tw_bndv (fun v9 => ?_)
  refine tw_chk (fun _ => ?_)
  refine tw_bnds (⟨rfl, rfl⟩ : zt S6 = zt S6 ∧ zu S6 = zu S6) (fun S10 cS10 => ?_)
  exact tw_at cS10 (hself22 _ _)
def d_X2_readName_22s (self22 : Nat → ZS → Option (Int32 × ZS)) (x0 : Nat) (S : ZS) : Option (Int32 × ZS) :=
  m_chk (zK S x0 = 2) (
  m_chk (zK S x0 = 2) (
  m_cal (zP S 2 x0) (fun b1 =>
  m_chk (zK S b1 = 6) (
  m_cal (f_X6_size b1 S) (fun o2 => m_chk (zt o2.2 = zt S ∧ zu o2.2 = zu S) (
  m_if (o2.1 ≤ (zI S 4 x0)) (
  d_X2_readName_101 x0 o2.2
  ) (
  m_chk (zK o2.2 x0 = 2) (
  m_cal (zP o2.2 2 x0) (fun b3 =>
  m_chk (zK o2.2 x0 = 2) (
  m_chk (zK o2.2 b3 = 6) (
  m_cal (f_X6_at b3 (zI o2.2 4 x0) o2.2) (fun o4 => m_chk (zt o4.2 = zt o2.2 ∧ zu o4.2 = zu o2.2) (
  m_cal (f_X11_isLetter o4.1 o4.2) (fun o5 => m_chk (zt o5.2 = zt o4.2 ∧ zu o5.2 = zu o4.2) (
  m_if (o5.1 = 0) (
  m_chk (zK o5.2 x0 = 2) (
  m_cal (zP o5.2 2 x0) (fun b6 =>
  m_chk (zK o5.2 x0 = 2) (
  m_chk (zK o5.2 b6 = 6) (
  m_cal (f_X6_at b6 (zI o5.2 4 x0) o5.2) (fun o7 => m_chk (zt o7.2 = zt o5.2 ∧ zu o7.2 = zu o5.2) (
  m_cal (f_X11_isDigit o7.1 o7.2) (fun o8 => m_chk (zt o8.2 = zt o7.2 ∧ zu o8.2 = zu o7.2) (
  m_if (o8.1 = 0) (
  d_X2_readName_101 x0 o8.2
  ) (
  d_X2_readName_70 self22 x0 o8.2
  )))))))))
  ) (
  d_X2_readName_70 self22 x0 o5.2
  )))))))))
  )))))))
theorem tt_X2_readName_22s {Pw : Int32 → ZS → Prop} {self22 : Nat → ZS → Option (Int32 × ZS)} {self22g : Nat → ZS → Nat → Nat → Prop} (hself22 : ∀ (y0 : Nat) (S : ZS), Tw Pw (self22 y0 S) (zt S) (zu S) (fun C T => self22g y0 S C T)) {x0 : Nat} {S : ZS} : Tw Pw (d_X2_readName_22s self22 x0 S) (zt S) (zu S) (fun C T => g_X2_readName_22s Pw self22g x0 S C T) := by
  unfold d_X2_readName_22s g_X2_readName_22s
  refine tw_chk (fun _ => ?_)
  refine tw_chk (fun _ => ?_)
  refine tw_calv (fun b1 => ?_)
  refine tw_chk (fun _ => ?_)
  refine tw_calf (⟨rfl, rfl⟩ : zt S = zt S ∧ zu S = zu S) (fun o2 co2 => ?_)
  refine tw_if (fun _ => ?_) (fun _ => ?_)
  ·
    exact tw_at co2 (tt_X2_readName_101)
  ·
    refine tw_chk (fun _ => ?_)
    refine tw_calv (fun b3 => ?_)
    refine tw_chk (fun _ => ?_)
    refine tw_chk (fun _ => ?_)
    refine tw_calf co2 (fun o4 co4 => ?_)
    refine tw_calf co4 (fun o5 co5 => ?_)
    refine tw_if (fun _ => ?_) (fun _ => ?_)
    ·
      refine tw_chk (fun _ => ?_)
      refine tw_calv (fun b6 => ?_)
      refine tw_chk (fun _ => ?_)
      refine tw_chk (fun _ => ?_)
      refine tw_calf co5 (fun o7 co7 => ?_)
      refine tw_calf co7 (fun o8 co8 => ?_)
      refine tw_if (fun _ => ?_) (fun _ => ?_)
      ·
        exact tw_at co8 (tt_X2_readName_101)
      ·
        exact tw_at co8 (tt_X2_readName_70 hself22)
    ·
      exact tw_at co5 (tt_X2_readName_70 hself22)
def d_X2_readName_22  : Nat → Nat → ZS → Option (Int32 × ZS)
  | 0 => fun _ _ => none
  | n + 1 => d_X2_readName_22s  (d_X2_readName_22  n)
theorem tt_X2_readName_22 {Pw : Int32 → ZS → Prop}   {n : Nat} : ∀ {z0 : Nat} {S : ZS}, Tw Pw (d_X2_readName_22  n z0 S) (zt S) (zu S) (fun C T => g_X2_readName_22 Pw  n z0 S C T) := by
  induction n with
  | zero => intro z0 S; exact tw_none
  | succ n ih => intro z0 S; exact tt_X2_readName_22s  (fun _ _ => ih)
def d_X2_readName_0 (x0 : Nat) (S : ZS) : Option (Int32 × ZS) :=
  m_chk (zK S x0 = 2) (
  m_bnd ((zI S 4 x0) + (1 : Int32)) (fun v1 =>
  m_chk (zK S x0 = 2) (
  m_bnd (zsI S 4 x0 v1) (fun S2 =>
  m_chk (zK S2 x0 = 2) (
  m_cal (f_X2_skipBlanks x0 S2) (fun o3 => m_chk (zt o3.2 = zt S2 ∧ zu o3.2 = zu S2) (
  m_chk (zK o3.2 x0 = 2) (
  m_cal (zP o3.2 6 x0) (fun b4 =>
  m_chk (zK o3.2 b4 = 6) (
  m_cal (f_X6_keep b4 (0 : Int32) o3.2) (fun o5 => m_chk (zt o5.2 = zt o3.2 ∧ zu o5.2 = zu o3.2) (
  d_X2_readName_22 mFuel x0 o5.2))))))))))))
theorem tt_X2_readName_0 {Pw : Int32 → ZS → Prop}   {x0 : Nat} {S : ZS} : Tw Pw (d_X2_readName_0 x0 S) (zt S) (zu S) (fun C T => g_X2_readName_0 Pw x0 S C T) := by
  unfold d_X2_readName_0 g_X2_readName_0
  refine tw_chk (fun _ => ?_)
  refine tw_bndv (fun v1 => ?_)
  refine tw_chk (fun _ => ?_)
  refine tw_bnds (⟨rfl, rfl⟩ : zt S = zt S ∧ zu S = zu S) (fun S2 cS2 => ?_)
  refine tw_chk (fun _ => ?_)
  refine tw_calf cS2 (fun o3 co3 => ?_)
  refine tw_chk (fun _ => ?_)
  refine tw_calv (fun b4 => ?_)
  refine tw_chk (fun _ => ?_)
  refine tw_calf co3 (fun o5 co5 => ?_)
  exact tw_at co5 (tt_X2_readName_22)
def d_X2_readName (x0 : Nat) (S : ZS) : Option (Int32 × ZS) := d_X2_readName_0 x0 S
theorem tt_X2_readName {Pw : Int32 → ZS → Prop} {x0 : Nat} {S : ZS} : Tw Pw (d_X2_readName x0 S) (zt S) (zu S) (fun C T => g_X2_readName x0 S C T Pw) := tt_X2_readName_0
def d_X2_readValue_142 (self48 : Nat → ZS → Option (Int32 × ZS)) (x0 : Nat) (x1 : Int32) (S : ZS) : Option (Int32 × ZS) :=
  m_if (x1 = (10 : Int32)) (
  m_chk (zK S x0 = 2) (
  m_chk (zK S x0 = 2) (
  m_cal (f_X2_refuse x0 (1 : Int32) (zI S 4 x0) S) (fun o9 => m_chk (zt o9.2 = zt S ∧ zu o9.2 = zu S) (
  m_chk (vp_nar .boolean o9.1 = o9.1) (
  some (o9.1, o9.2))))))
  ) (
  m_chk (zK S x0 = 2) (
  m_cal (zP S 7 x0) (fun b1 =>
  m_chk (zK S b1 = 6) (
  m_cal2 (d_X6_put b1 x1 S) (fun r3 S4 =>
  m_chk (zK S4 x0 = 2) (
  m_bnd ((zI S4 4 x0) + (1 : Int32)) (fun v7 =>
  m_chk (zK S4 x0 = 2) (
  m_bnd (zsI S4 4 x0 v7) (fun S8 =>
  self48 x0 S8))))))))
  )
theorem tt_X2_readValue_142 {Pw : Int32 → ZS → Prop} {self48 : Nat → ZS → Option (Int32 × ZS)} {self48g : Nat → ZS → Nat → Nat → Prop} (hself48 : ∀ (y0 : Nat) (S : ZS), Tw Pw (self48 y0 S) (zt S) (zu S) (fun C T => self48g y0 S C T)) {x0 : Nat} {x1 : Int32} {S : ZS} : Tw Pw (d_X2_readValue_142 self48 x0 x1 S) (zt S) (zu S) (fun C T => g_X2_readValue_142 Pw self48g x0 x1 S C T) := by
  unfold d_X2_readValue_142 g_X2_readValue_142
  refine tw_if (fun _ => ?_) (fun _ => ?_)
  ·
    refine tw_chk (fun _ => ?_)
    refine tw_chk (fun _ => ?_)
    refine tw_calf (⟨rfl, rfl⟩ : zt S = zt S ∧ zu S = zu S) (fun o9 co9 => ?_)
    refine tw_chk (fun _ => ?_)
    exact tw_ret co9
  ·
    refine tw_chk (fun _ => ?_)
    refine tw_calv (fun b1 => ?_)
    refine tw_chk (fun _ => ?_)
    refine tw_gal (fun Pw9 => tw_at (⟨rfl, rfl⟩ : zt S = zt S ∧ zu S = zu S) tt_X6_put) (fun r3 S4 => ?_)
    refine tw_chk (fun _ => ?_)
    refine tw_bndv (fun v7 => ?_)
    refine tw_chk (fun _ => ?_)
    refine tw_bnds (⟨rfl, rfl⟩ : zt S4 = zt S4 ∧ zu S4 = zu S4) (fun S8 cS8 => ?_)
    exact tw_at cS8 (hself48 _ _)
def d_X2_readValue_48s (self48 : Nat → ZS → Option (Int32 × ZS)) (x0 : Nat) (S : ZS) : Option (Int32 × ZS) :=
  m_chk (zK S x0 = 2) (
  m_chk (zK S x0 = 2) (
  m_cal (zP S 2 x0) (fun b1 =>
  m_chk (zK S b1 = 6) (
  m_cal (f_X6_size b1 S) (fun o2 => m_chk (zt o2.2 = zt S ∧ zu o2.2 = zu S) (
  m_if (o2.1 ≤ (zI S 4 x0)) (
  m_chk (zK o2.2 x0 = 2) (
  m_chk (zK o2.2 x0 = 2) (
  m_cal (f_X2_refuse x0 (1 : Int32) (zI o2.2 4 x0) o2.2) (fun o3 => m_chk (zt o3.2 = zt o2.2 ∧ zu o3.2 = zu o2.2) (
  m_chk (vp_nar .boolean o3.1 = o3.1) (
  some (o3.1, o3.2))))))
  ) (
  m_chk (zK o2.2 x0 = 2) (
  m_cal (zP o2.2 2 x0) (fun b4 =>
  m_chk (zK o2.2 x0 = 2) (
  m_chk (zK o2.2 b4 = 6) (
  m_cal (f_X6_at b4 (zI o2.2 4 x0) o2.2) (fun o5 => m_chk (zt o5.2 = zt o2.2 ∧ zu o5.2 = zu o2.2) (
  m_if (o5.1 = (34 : Int32)) (
  m_chk (zK o5.2 x0 = 2) (
  m_bnd ((zI o5.2 4 x0) + (1 : Int32)) (fun v11 =>
  m_chk (zK o5.2 x0 = 2) (
  m_bnd (zsI o5.2 4 x0 v11) (fun S12 =>
  m_chk (vp_nar .boolean (1 : Int32) = (1 : Int32)) (
  some ((1 : Int32), S12))))))
  ) (
  m_if (o5.1 = (92 : Int32)) (
  m_chk (zK o5.2 x0 = 2) (
  m_bnd ((zI o5.2 4 x0) + (1 : Int32)) (fun v6 =>
  m_chk (zK o5.2 x0 = 2) (
  m_bnd (zsI o5.2 4 x0 v6) (fun S7 =>
  m_chk (zK S7 x0 = 2) (
  m_cal (zP S7 2 x0) (fun b8 =>
  m_chk (zK S7 x0 = 2) (
  m_chk (zK S7 b8 = 6) (
  m_cal (f_X6_at b8 (zI S7 4 x0) S7) (fun o9 => m_chk (zt o9.2 = zt S7 ∧ zu o9.2 = zu S7) (
  m_if (o9.1 = (34 : Int32)) (
  d_X2_readValue_142 self48 x0 o9.1 o9.2
  ) (
  m_if (o9.1 = (92 : Int32)) (
  d_X2_readValue_142 self48 x0 o9.1 o9.2
  ) (
  m_chk (zK o9.2 x0 = 2) (
  m_chk (zK o9.2 x0 = 2) (
  m_cal (f_X2_refuse x0 (1 : Int32) (zI o9.2 4 x0) o9.2) (fun o10 => m_chk (zt o10.2 = zt o9.2 ∧ zu o10.2 = zu o9.2) (
  m_chk (vp_nar .boolean o10.1 = o10.1) (
  some (o10.1, o10.2))))))
  )
  )))))))))))
  ) (
  d_X2_readValue_142 self48 x0 o5.1 o5.2
  )
  )))))))
  )))))))
theorem tt_X2_readValue_48s {Pw : Int32 → ZS → Prop} {self48 : Nat → ZS → Option (Int32 × ZS)} {self48g : Nat → ZS → Nat → Nat → Prop} (hself48 : ∀ (y0 : Nat) (S : ZS), Tw Pw (self48 y0 S) (zt S) (zu S) (fun C T => self48g y0 S C T)) {x0 : Nat} {S : ZS} : Tw Pw (d_X2_readValue_48s self48 x0 S) (zt S) (zu S) (fun C T => g_X2_readValue_48s Pw self48g x0 S C T) := by
  unfold d_X2_readValue_48s g_X2_readValue_48s
  refine tw_chk (fun _ => ?_)
  refine tw_chk (fun _ => ?_)
  refine tw_calv (fun b1 => ?_)
  refine tw_chk (fun _ => ?_)
  refine tw_calf (⟨rfl, rfl⟩ : zt S = zt S ∧ zu S = zu S) (fun o2 co2 => ?_)
  refine tw_if (fun _ => ?_) (fun _ => ?_)
  ·
    refine tw_chk (fun _ => ?_)
    refine tw_chk (fun _ => ?_)
    refine tw_calf co2 (fun o3 co3 => ?_)
    refine tw_chk (fun _ => ?_)
    exact tw_ret co3
  ·
    refine tw_chk (fun _ => ?_)
    refine tw_calv (fun b4 => ?_)
    refine tw_chk (fun _ => ?_)
    refine tw_chk (fun _ => ?_)
    refine tw_calf co2 (fun o5 co5 => ?_)
    refine tw_if (fun _ => ?_) (fun _ => ?_)
    ·
      refine tw_chk (fun _ => ?_)
      refine tw_bndv (fun v11 => ?_)
      refine tw_chk (fun _ => ?_)
      refine tw_bnds co5 (fun S12 cS12 => ?_)
      refine tw_chk (fun _ => ?_)
      exact tw_ret cS12
    ·
      refine tw_if (fun _ => ?_) (fun _ => ?_)
      ·
        refine tw_chk (fun _ => ?_)
        refine tw_bndv (fun v6 => ?_)
        refine tw_chk (fun _ => ?_)
        refine tw_bnds co5 (fun S7 cS7 => ?_)
        refine tw_chk (fun _ => ?_)
        refine tw_calv (fun b8 => ?_)
        refine tw_chk (fun _ => ?_)
        refine tw_chk (fun _ => ?_)
        refine tw_calf cS7 (fun o9 co9 => ?_)
        refine tw_if (fun _ => ?_) (fun _ => ?_)
        ·
          exact tw_at co9 (tt_X2_readValue_142 hself48)
        ·
          refine tw_if (fun _ => ?_) (fun _ => ?_)
          ·
            exact tw_at co9 (tt_X2_readValue_142 hself48)
          ·
            refine tw_chk (fun _ => ?_)
            refine tw_chk (fun _ => ?_)
            refine tw_calf co9 (fun o10 co10 => ?_)
            refine tw_chk (fun _ => ?_)
            exact tw_ret co10
      ·
        exact tw_at co5 (tt_X2_readValue_142 hself48)
def d_X2_readValue_48  : Nat → Nat → ZS → Option (Int32 × ZS)
  | 0 => fun _ _ => none
  | n + 1 => d_X2_readValue_48s  (d_X2_readValue_48  n)
theorem tt_X2_readValue_48 {Pw : Int32 → ZS → Prop}   {n : Nat} : ∀ {z0 : Nat} {S : ZS}, Tw Pw (d_X2_readValue_48  n z0 S) (zt S) (zu S) (fun C T => g_X2_readValue_48 Pw  n z0 S C T) := by
  induction n with
  | zero => intro z0 S; exact tw_none
  | succ n ih => intro z0 S; exact tt_X2_readValue_48s  (fun _ _ => ih)
def d_X2_readValue_0 (x0 : Nat) (S : ZS) : Option (Int32 × ZS) :=
  m_chk (zK S x0 = 2) (
  m_cal (f_X2_skipBlanks x0 S) (fun o1 => m_chk (zt o1.2 = zt S ∧ zu o1.2 = zu S) (
  m_chk (zK o1.2 x0 = 2) (
  m_cal (zP o1.2 2 x0) (fun b2 =>
  m_chk (zK o1.2 x0 = 2) (
  m_chk (zK o1.2 b2 = 6) (
  m_cal (f_X6_at b2 (zI o1.2 4 x0) o1.2) (fun o3 => m_chk (zt o3.2 = zt o1.2 ∧ zu o3.2 = zu o1.2) (
  m_if (o3.1 = (34 : Int32)) (
  m_chk (zK o3.2 x0 = 2) (
  m_cal (zP o3.2 7 x0) (fun b4 =>
  m_chk (zK o3.2 b4 = 6) (
  m_cal (f_X6_keep b4 (0 : Int32) o3.2) (fun o5 => m_chk (zt o5.2 = zt o3.2 ∧ zu o5.2 = zu o3.2) (
  m_chk (zK o5.2 x0 = 2) (
  m_bnd ((zI o5.2 4 x0) + (1 : Int32)) (fun v6 =>
  m_chk (zK o5.2 x0 = 2) (
  m_bnd (zsI o5.2 4 x0 v6) (fun S7 =>
  d_X2_readValue_48 mFuel x0 S7)))))))))
  ) (
  m_chk (zK o3.2 x0 = 2) (
  m_chk (zK o3.2 x0 = 2) (
  m_cal (f_X2_refuse x0 (1 : Int32) (zI o3.2 4 x0) o3.2) (fun o8 => m_chk (zt o8.2 = zt o3.2 ∧ zu o8.2 = zu o3.2) (
  m_chk (vp_nar .boolean o8.1 = o8.1) (
  some (o8.1, o8.2))))))
  ))))))))))
theorem tt_X2_readValue_0 {Pw : Int32 → ZS → Prop}   {x0 : Nat} {S : ZS} : Tw Pw (d_X2_readValue_0 x0 S) (zt S) (zu S) (fun C T => g_X2_readValue_0 Pw x0 S C T) := by
  unfold d_X2_readValue_0 g_X2_readValue_0
  refine tw_chk (fun _ => ?_)
  refine tw_calf (⟨rfl, rfl⟩ : zt S = zt S ∧ zu S = zu S) (fun o1 co1 => ?_)
  refine tw_chk (fun _ => ?_)
  refine tw_calv (fun b2 => ?_)
  refine tw_chk (fun _ => ?_)
  refine tw_chk (fun _ => ?_)
  refine tw_calf co1 (fun o3 co3 => ?_)
  refine tw_if (fun _ => ?_) (fun _ => ?_)
  ·
    refine tw_chk (fun _ => ?_)
    refine tw_calv (fun b4 => ?_)
    refine tw_chk (fun _ => ?_)
    refine tw_calf co3 (fun o5 co5 => ?_)
    refine tw_chk (fun _ => ?_)
    refine tw_bndv (fun v6 => ?_)
    refine tw_chk (fun _ => ?_)
    refine tw_bnds co5 (fun S7 cS7 => ?_)
    exact tw_at cS7 (tt_X2_readValue_48)
  ·
    refine tw_chk (fun _ => ?_)
    refine tw_chk (fun _ => ?_)
    refine tw_calf co3 (fun o8 co8 => ?_)
    refine tw_chk (fun _ => ?_)
    exact tw_ret co8
def d_X2_readValue (x0 : Nat) (S : ZS) : Option (Int32 × ZS) := d_X2_readValue_0 x0 S
theorem tt_X2_readValue {Pw : Int32 → ZS → Prop} {x0 : Nat} {S : ZS} : Tw Pw (d_X2_readValue x0 S) (zt S) (zu S) (fun C T => g_X2_readValue x0 S C T Pw) := tt_X2_readValue_0
def d_X2_readTag_19 (S : ZS) : Option (Int32 × ZS) :=
  m_chk (vp_nar .boolean (0 : Int32) = (0 : Int32)) (
  some ((0 : Int32), S))
theorem tt_X2_readTag_19 {Pw : Int32 → ZS → Prop}   {S : ZS} : Tw Pw (d_X2_readTag_19 S) (zt S) (zu S) (fun C T => g_X2_readTag_19 Pw S C T) := by
  unfold d_X2_readTag_19 g_X2_readTag_19
  refine tw_chk (fun _ => ?_)
  exact tw_ret (⟨rfl, rfl⟩ : zt S = zt S ∧ zu S = zu S)
def d_X2_readTag_111 (x0 : Nat) (x1 : Int32) (S : ZS) : Option (Int32 × ZS) :=
  m_chk (zK S x0 = 2) (
  m_cal (f_X2_refuse x0 (2 : Int32) x1 S) (fun o1 => m_chk (zt o1.2 = zt S ∧ zu o1.2 = zu S) (
  m_chk (vp_nar .boolean o1.1 = o1.1) (
  some (o1.1, o1.2)))))
theorem tt_X2_readTag_111 {Pw : Int32 → ZS → Prop}   {x0 : Nat} {x1 : Int32} {S : ZS} : Tw Pw (d_X2_readTag_111 x0 x1 S) (zt S) (zu S) (fun C T => g_X2_readTag_111 Pw x0 x1 S C T) := by
  unfold d_X2_readTag_111 g_X2_readTag_111
  refine tw_chk (fun _ => ?_)
  refine tw_calf (⟨rfl, rfl⟩ : zt S = zt S ∧ zu S = zu S) (fun o1 co1 => ?_)
  refine tw_chk (fun _ => ?_)
  exact tw_ret co1
def d_X2_readTag_158 (x0 : Nat) (S : ZS) : Option (Int32 × ZS) :=
  m_chk (zK S x0 = 2) (
  m_cal (zP S 3 x0) (fun b1 =>
  m_chk (zK S x0 = 2) (
  m_cal (zP S 6 x0) (fun b2 =>
  m_chk (zK S x0 = 2) (
  m_cal (zP S 7 x0) (fun b3 =>
  m_chk (zK S b1 = 1) (
  m_cal2 (d_X1_putTag b1 b2 b3 S) (fun r5 S6 =>
  m_chk (vp_nar .boolean (1 : Int32) = (1 : Int32)) (
  some ((1 : Int32), S6))))))))))
theorem tt_X2_readTag_158 {Pw : Int32 → ZS → Prop}   {x0 : Nat} {S : ZS} : Tw Pw (d_X2_readTag_158 x0 S) (zt S) (zu S) (fun C T => g_X2_readTag_158 Pw x0 S C T) := by
  unfold d_X2_readTag_158 g_X2_readTag_158
  refine tw_chk (fun _ => ?_)
  refine tw_calv (fun b1 => ?_)
  refine tw_chk (fun _ => ?_)
  refine tw_calv (fun b2 => ?_)
  refine tw_chk (fun _ => ?_)
  refine tw_calv (fun b3 => ?_)
  refine tw_chk (fun _ => ?_)
  refine tw_gal (fun Pw9 => tw_at (⟨rfl, rfl⟩ : zt S = zt S ∧ zu S = zu S) tt_X1_putTag) (fun r5 S6 => ?_)
  refine tw_chk (fun _ => ?_)
  exact tw_ret (⟨rfl, rfl⟩ : zt S6 = zt S6 ∧ zu S6 = zu S6)
def d_X2_readTag_0 (x0 : Nat) (S : ZS) : Option (Int32 × ZS) :=
  m_chk (zK S x0 = 2) (
  m_chk (zK S x0 = 2) (
  m_cal2 (d_X2_readName x0 S) (fun r2 S3 =>
  m_if (r2 = 0) (
  d_X2_readTag_19 S3
  ) (
  m_chk (zK S3 x0 = 2) (
  m_cal2 (d_X2_readValue x0 S3) (fun r7 S8 =>
  m_if (r7 = 0) (
  d_X2_readTag_19 S8
  ) (
  m_chk (zK S8 x0 = 2) (
  m_cal (f_X2_skipBlanks x0 S8) (fun o11 => m_chk (zt o11.2 = zt S8 ∧ zu o11.2 = zu S8) (
  m_chk (zK o11.2 x0 = 2) (
  m_cal (zP o11.2 2 x0) (fun b12 =>
  m_chk (zK o11.2 x0 = 2) (
  m_chk (zK o11.2 b12 = 6) (
  m_cal (f_X6_at b12 (zI o11.2 4 x0) o11.2) (fun o13 => m_chk (zt o13.2 = zt o11.2 ∧ zu o13.2 = zu o11.2) (
  m_if (o13.1 = (93 : Int32)) (
  m_chk (zK o13.2 x0 = 2) (
  m_bnd ((zI o13.2 4 x0) + (1 : Int32)) (fun v14 =>
  m_chk (zK o13.2 x0 = 2) (
  m_bnd (zsI o13.2 4 x0 v14) (fun S15 =>
  m_chk (zK S15 x0 = 2) (
  m_cal (zP S15 3 x0) (fun b16 =>
  m_chk (zK S15 b16 = 1) (
  m_if ((8 : Int32) ≤ (zI S15 5 b16)) (
  d_X2_readTag_111 x0 (zI S 4 x0) S15
  ) (
  m_chk (zK S15 x0 = 2) (
  m_cal (zP S15 6 x0) (fun b17 =>
  m_chk (zK S15 b17 = 6) (
  m_cal (f_X6_size b17 S15) (fun o18 => m_chk (zt o18.2 = zt S15 ∧ zu o18.2 = zu S15) (
  m_if ((12 : Int32) < o18.1) (
  d_X2_readTag_111 x0 (zI S 4 x0) o18.2
  ) (
  m_chk (zK o18.2 x0 = 2) (
  m_cal (zP o18.2 3 x0) (fun b19 =>
  m_chk (zK o18.2 x0 = 2) (
  m_cal (zP o18.2 6 x0) (fun b20 =>
  m_chk (zK o18.2 b19 = 1) (
  m_cal2 (d_X1_hasTag b19 b20 o18.2) (fun r22 S23 =>
  m_if (r22 = 0) (
  m_chk (zK S23 x0 = 2) (
  m_cal (zP S23 7 x0) (fun b26 =>
  m_chk (zK S23 b26 = 6) (
  m_cal (f_X6_size b26 S23) (fun o27 => m_chk (zt o27.2 = zt S23 ∧ zu o27.2 = zu S23) (
  m_if (o27.1 ≤ (96 : Int32)) (
  m_chk (zK o27.2 x0 = 2) (
  m_cal (zP o27.2 6 x0) (fun b28 =>
  m_chk (zK o27.2 b28 = 6) (
  m_cal (f_X6_is b28 0 o27.2) (fun o29 => m_chk (zt o29.2 = zt o27.2 ∧ zu o29.2 = zu o27.2) (
  m_if (o29.1 = 0) (
  d_X2_readTag_158 x0 o29.2
  ) (
  m_chk (zK o29.2 x0 = 2) (
  m_cal (zP o29.2 1 x0) (fun b30 =>
  m_chk (zK o29.2 x0 = 2) (
  m_cal (zP o29.2 3 x0) (fun b31 =>
  m_chk (zK o29.2 b31 = 1) (
  m_cal (zP o29.2 0 b31) (fun b32 =>
  m_chk (zK o29.2 x0 = 2) (
  m_cal (zP o29.2 7 x0) (fun b33 =>
  m_chk (zK o29.2 b30 = 5) (
  m_cal (f_X5_readInto b30 b32 b33 o29.2) (fun o34 => m_chk (zt o34.2 = zt o29.2 ∧ zu o34.2 = zu o29.2) (
  m_if (o34.1 = 0) (
  m_chk (zK o34.2 x0 = 2) (
  m_cal (f_X2_refuse x0 (3 : Int32) (zI S 4 x0) o34.2) (fun o35 => m_chk (zt o35.2 = zt o34.2 ∧ zu o35.2 = zu o34.2) (
  m_chk (vp_nar .boolean o35.1 = o35.1) (
  some (o35.1, o35.2)))))
  ) (
  d_X2_readTag_158 x0 o34.2
  ))))))))))))
  ))))))
  ) (
  d_X2_readTag_111 x0 (zI S 4 x0) o27.2
  ))))))
  ) (
  d_X2_readTag_111 x0 (zI S 4 x0) S23
  )))))))
  ))))))
  ))))))))
  ) (
  m_chk (zK o13.2 x0 = 2) (
  m_chk (zK o13.2 x0 = 2) (
  m_cal (f_X2_refuse x0 (1 : Int32) (zI o13.2 4 x0) o13.2) (fun o36 => m_chk (zt o36.2 = zt o13.2 ∧ zu o36.2 = zu o13.2) (
  m_chk (vp_nar .boolean o36.1 = o36.1) (
  some (o36.1, o36.2))))))
  ))))))))))
  )))
  ))))
theorem tt_X2_readTag_0 {Pw : Int32 → ZS → Prop}   {x0 : Nat} {S : ZS} : Tw Pw (d_X2_readTag_0 x0 S) (zt S) (zu S) (fun C T => g_X2_readTag_0 Pw x0 S C T) := by
  unfold d_X2_readTag_0 g_X2_readTag_0
  refine tw_chk (fun _ => ?_)
  refine tw_chk (fun _ => ?_)
  refine tw_gal (fun Pw9 => tw_at (⟨rfl, rfl⟩ : zt S = zt S ∧ zu S = zu S) tt_X2_readName) (fun r2 S3 => ?_)
  refine tw_if (fun _ => ?_) (fun _ => ?_)
  ·
    exact tw_at (⟨rfl, rfl⟩ : zt S3 = zt S3 ∧ zu S3 = zu S3) (tt_X2_readTag_19)
  ·
    refine tw_chk (fun _ => ?_)
    refine tw_gal (fun Pw9 => tw_at (⟨rfl, rfl⟩ : zt S3 = zt S3 ∧ zu S3 = zu S3) tt_X2_readValue) (fun r7 S8 => ?_)
    refine tw_if (fun _ => ?_) (fun _ => ?_)
    ·
      exact tw_at (⟨rfl, rfl⟩ : zt S8 = zt S8 ∧ zu S8 = zu S8) (tt_X2_readTag_19)
    ·
      refine tw_chk (fun _ => ?_)
      refine tw_calf (⟨rfl, rfl⟩ : zt S8 = zt S8 ∧ zu S8 = zu S8) (fun o11 co11 => ?_)
      refine tw_chk (fun _ => ?_)
      refine tw_calv (fun b12 => ?_)
      refine tw_chk (fun _ => ?_)
      refine tw_chk (fun _ => ?_)
      refine tw_calf co11 (fun o13 co13 => ?_)
      refine tw_if (fun _ => ?_) (fun _ => ?_)
      ·
        refine tw_chk (fun _ => ?_)
        refine tw_bndv (fun v14 => ?_)
        refine tw_chk (fun _ => ?_)
        refine tw_bnds co13 (fun S15 cS15 => ?_)
        refine tw_chk (fun _ => ?_)
        refine tw_calv (fun b16 => ?_)
        refine tw_chk (fun _ => ?_)
        refine tw_if (fun _ => ?_) (fun _ => ?_)
        ·
          exact tw_at cS15 (tt_X2_readTag_111)
        ·
          refine tw_chk (fun _ => ?_)
          refine tw_calv (fun b17 => ?_)
          refine tw_chk (fun _ => ?_)
          refine tw_calf cS15 (fun o18 co18 => ?_)
          refine tw_if (fun _ => ?_) (fun _ => ?_)
          ·
            exact tw_at co18 (tt_X2_readTag_111)
          ·
            refine tw_chk (fun _ => ?_)
            refine tw_calv (fun b19 => ?_)
            refine tw_chk (fun _ => ?_)
            refine tw_calv (fun b20 => ?_)
            refine tw_chk (fun _ => ?_)
            refine tw_gal (fun Pw9 => tw_at co18 tt_X1_hasTag) (fun r22 S23 => ?_)
            refine tw_if (fun _ => ?_) (fun _ => ?_)
            ·
              refine tw_chk (fun _ => ?_)
              refine tw_calv (fun b26 => ?_)
              refine tw_chk (fun _ => ?_)
              refine tw_calf (⟨rfl, rfl⟩ : zt S23 = zt S23 ∧ zu S23 = zu S23) (fun o27 co27 => ?_)
              refine tw_if (fun _ => ?_) (fun _ => ?_)
              ·
                refine tw_chk (fun _ => ?_)
                refine tw_calv (fun b28 => ?_)
                refine tw_chk (fun _ => ?_)
                refine tw_calf co27 (fun o29 co29 => ?_)
                refine tw_if (fun _ => ?_) (fun _ => ?_)
                ·
                  exact tw_at co29 (tt_X2_readTag_158)
                ·
                  refine tw_chk (fun _ => ?_)
                  refine tw_calv (fun b30 => ?_)
                  refine tw_chk (fun _ => ?_)
                  refine tw_calv (fun b31 => ?_)
                  refine tw_chk (fun _ => ?_)
                  refine tw_calv (fun b32 => ?_)
                  refine tw_chk (fun _ => ?_)
                  refine tw_calv (fun b33 => ?_)
                  refine tw_chk (fun _ => ?_)
                  refine tw_calf co29 (fun o34 co34 => ?_)
                  refine tw_if (fun _ => ?_) (fun _ => ?_)
                  ·
                    refine tw_chk (fun _ => ?_)
                    refine tw_calf co34 (fun o35 co35 => ?_)
                    refine tw_chk (fun _ => ?_)
                    exact tw_ret co35
                  ·
                    exact tw_at co34 (tt_X2_readTag_158)
              ·
                exact tw_at co27 (tt_X2_readTag_111)
            ·
              exact tw_at (⟨rfl, rfl⟩ : zt S23 = zt S23 ∧ zu S23 = zu S23) (tt_X2_readTag_111)
      ·
        refine tw_chk (fun _ => ?_)
        refine tw_chk (fun _ => ?_)
        refine tw_calf co13 (fun o36 co36 => ?_)
        refine tw_chk (fun _ => ?_)
        exact tw_ret co36
