def Em (S : ZS) (b k : Nat) : Prop := zK S b = k ∧ zB S b = (fun _ => none) ∧ b < zt S
theorem em_I {S S' : ZS} {j a b k : Nat} {v : Int32} (h : Em S b k) (e : S' = zsI S j a v) : Em S' b k := by rw [e]; exact h
theorem em_P {S S' : ZS} {j a b k : Nat} {v : Option Nat} (h : Em S b k) (e : S' = zsP S j a v) : Em S' b k := by rw [e]; exact h
theorem em_B {S S' : ZS} {a i b k : Nat} {v : Option Nat} (h : Em S b k) (e : S' = zsB S a i v) (ha : zK S a = 15) (hk : k ≠ 15) : Em S' b k := by
  rw [e]
  refine ⟨h.1, ?_, h.2.2⟩
  show va_up (zB S) a (va_up (zB S a) i v) b = _
  rw [va_up_ne _ _ (fun e2 => hk (by rw [← h.1, e2, ha])), h.2.1]
theorem em_O {S S' : ZS} {q kk n b k : Nat} (h : Em S b k) (hq : q = zt S) (e : S' = zsNewO S q kk n) : Em S' b k := by
  have hb := h.2.2
  rw [e]
  refine ⟨?_, h.2.1, Nat.lt_succ_of_lt hb⟩
  show va_up (zK S) q kk b = k
  rw [va_up_ne _ _ (by omega)]; exact h.1
theorem em_A {S S' : ZS} {q kk n b k : Nat} (h : Em S b k) (hq : q = zt S) (e : S' = zsNewA S q kk n) : Em S' b k := by
  have hb := h.2.2
  rw [e]
  refine ⟨?_, ?_, Nat.lt_succ_of_lt hb⟩
  · show va_up (zK S) q kk b = k
    rw [va_up_ne _ _ (by omega)]; exact h.1
  · show va_up (zB S) q (fun _ => none) b = _
    rw [va_up_ne _ _ (by omega)]; exact h.2.1
theorem em_N {S S' : ZS} {q kk n : Nat} (hq : q = zt S) (e : S' = zsNewA S q kk n) : Em S' q kk := by
  rw [e]
  refine ⟨va_up_self _ _ _, va_up_self _ _ _, ?_⟩
  show q < zt S + 1
  omega
theorem em_f {W V : List (Nat × Nat)} {B : List Nat} {S S' : ZS} {b k : Nat} (h : Em S b k) (hF : Fh S) (f : FrZ W V B S S') (hk : k < 18 ∧ k ∉ B) : Em S' b k := by
  obtain ⟨-, f2, f3⟩ := f hF
  have fb := f3 b (by rw [h.1]; exact hk.1)
  exact ⟨fb.1.trans h.1, (fb.2.2.2.2 (by rw [h.1]; exact hk.2)).trans h.2.1, Nat.lt_of_lt_of_le h.2.2 f2⟩
theorem fh_I {S S' : ZS} {j a : Nat} {v : Int32} (h : Fh S) (e : S' = zsI S j a v) : Fh S' := by rw [e]; exact h
theorem fh_P {S S' : ZS} {j a : Nat} {v : Option Nat} (h : Fh S) (e : S' = zsP S j a v) : Fh S' := by rw [e]; exact h
theorem fh_B {S S' : ZS} {a i : Nat} {v : Option Nat} (h : Fh S) (e : S' = zsB S a i v) : Fh S' := by rw [e]; exact h
theorem fh_O {S S' : ZS} {q kk n : Nat} (h : Fh S) (hq : q = zt S) (e : S' = zsNewO S q kk n) : Fh S' := ((frz_nO (W := []) (V := []) (B := []) frz_0 hq e) h).1
theorem fh_A {S S' : ZS} {q kk n : Nat} (h : Fh S) (hq : q = zt S) (e : S' = zsNewA S q kk n) : Fh S' := ((frz_nA (W := []) (V := []) (B := []) frz_0 hq e) h).1
theorem le_s {S S' : ZS} {q kk n m : Nat} (h : m ≤ zt S) (e : S' = zsNewA S q kk n) : m ≤ zt S' := by rw [e]; exact Nat.le_succ_of_le h

theorem x1_em {o : Int32 × ZS} {x0 : Nat} {S : ZS} (hF : Fh S) (hf : d_X1_init x0 S = some o) : ∃ b t, zt S ≤ b ∧ zt S ≤ t ∧ Em o.2 b 16 ∧ Em o.2 t 17 := by
  have hf : d_X1_init_0 x0 S = some o := hf
  unfold d_X1_init_0 at hf
  obtain ⟨q1, e1_, hf⟩ := m_bndE hf
  obtain ⟨S2, e2_, hf⟩ := m_bndE hf
  have F_S2 : Fh S2 := fh_O hF e1_ e2_
  have z_S2 : zt S ≤ zt S2 := by rw [e2_]; exact Nat.le_succ_of_le (Nat.le_refl _)
  obtain ⟨⟨r6, S7⟩, ho, hf⟩ := m_cal2E hf
  dsimp only at hf
  have o3_ := fz_X0_init ho
  replace o3_ := o3_
  have F_S7 : Fh S7 := (o3_ F_S2).1
  have z_S7 : zt S ≤ zt S7 := Nat.le_trans z_S2 (o3_ F_S2).2.1
  clear ho
  obtain ⟨q4_, hf⟩ := m_chkE hf
  obtain ⟨S10, e5_, hf⟩ := m_bndE hf
  have F_S10 : Fh S10 := fh_P F_S7 e5_
  have z_S10 : zt S ≤ zt S10 := by rw [e5_]; exact z_S7
  obtain ⟨q11, e6_, hf⟩ := m_bndE hf
  obtain ⟨S12, e7_, hf⟩ := m_bndE hf
  have F_S12 : Fh S12 := fh_O F_S10 e6_ e7_
  have z_S12 : zt S ≤ zt S12 := by rw [e7_]; exact Nat.le_succ_of_le z_S10
  obtain ⟨⟨r16, S17⟩, ho, hf⟩ := m_cal2E hf
  dsimp only at hf
  have o8_ := fz_X4_init ho
  replace o8_ := o8_
  have F_S17 : Fh S17 := (o8_ F_S12).1
  have z_S17 : zt S ≤ zt S17 := Nat.le_trans z_S12 (o8_ F_S12).2.1
  clear ho
  obtain ⟨q9_, hf⟩ := m_chkE hf
  obtain ⟨S20, e10_, hf⟩ := m_bndE hf
  have F_S20 : Fh S20 := fh_P F_S17 e10_
  have z_S20 : zt S ≤ zt S20 := by rw [e10_]; exact z_S17
  obtain ⟨-, hf⟩ := m_chkE hf
  obtain ⟨q21, e11_, hf⟩ := m_bndE hf
  obtain ⟨S22, e12_, hf⟩ := m_bndE hf
  have m13 : Em S22 q21 16 := em_N e11_ e12_
  have F_S22 : Fh S22 := fh_A F_S20 e11_ e12_
  have z_S22 : zt S ≤ zt S22 := by rw [e12_]; exact Nat.le_succ_of_le z_S20
  obtain ⟨q14_, hf⟩ := m_chkE hf
  obtain ⟨S25, e15_, hf⟩ := m_bndE hf
  have m16 : Em S25 q21 16 := em_P m13 e15_
  have F_S25 : Fh S25 := fh_P F_S22 e15_
  have z_S25 : zt S ≤ zt S25 := by rw [e15_]; exact z_S22
  obtain ⟨q17_, hf⟩ := m_chkE hf
  obtain ⟨S26, e18_, hf⟩ := m_bndE hf
  have m19 : Em S26 q21 16 := em_I m16 e18_
  have F_S26 : Fh S26 := fh_I F_S25 e18_
  have z_S26 : zt S ≤ zt S26 := by rw [e18_]; exact z_S25
  obtain ⟨-, hf⟩ := m_chkE hf
  obtain ⟨q27, e20_, hf⟩ := m_bndE hf
  obtain ⟨S28, e21_, hf⟩ := m_bndE hf
  have m22 : Em S28 q21 16 := em_A m19 e20_ e21_
  have m23 : Em S28 q27 17 := em_N e20_ e21_
  have F_S28 : Fh S28 := fh_A F_S26 e20_ e21_
  have z_S28 : zt S ≤ zt S28 := by rw [e21_]; exact Nat.le_succ_of_le z_S26
  obtain ⟨q24_, hf⟩ := m_chkE hf
  obtain ⟨S31, e25_, hf⟩ := m_bndE hf
  have m26 : Em S31 q21 16 := em_P m22 e25_
  have m27 : Em S31 q27 17 := em_P m23 e25_
  have F_S31 : Fh S31 := fh_P F_S28 e25_
  have z_S31 : zt S ≤ zt S31 := by rw [e25_]; exact z_S28
  obtain ⟨q28_, hf⟩ := m_chkE hf
  obtain ⟨S32, e29_, hf⟩ := m_bndE hf
  have m30 : Em S32 q21 16 := em_I m26 e29_
  have m31 : Em S32 q27 17 := em_I m27 e29_
  have F_S32 : Fh S32 := fh_I F_S31 e29_
  have z_S32 : zt S ≤ zt S32 := by rw [e29_]; exact z_S31
  obtain ⟨q32_, hf⟩ := m_chkE hf
  obtain ⟨S33, e33_, hf⟩ := m_bndE hf
  have m34 : Em S33 q21 16 := em_I m30 e33_
  have m35 : Em S33 q27 17 := em_I m31 e33_
  have F_S33 : Fh S33 := fh_I F_S32 e33_
  have z_S33 : zt S ≤ zt S33 := by rw [e33_]; exact z_S32
  obtain ⟨-, hf⟩ := m_chkE hf
  obtain ⟨q34, e36_, hf⟩ := m_bndE hf
  obtain ⟨S35, e37_, hf⟩ := m_bndE hf
  have m38 : Em S35 q21 16 := em_A m34 e36_ e37_
  have m39 : Em S35 q27 17 := em_A m35 e36_ e37_
  have F_S35 : Fh S35 := fh_A F_S33 e36_ e37_
  have z_S35 : zt S ≤ zt S35 := by rw [e37_]; exact Nat.le_succ_of_le z_S33
  obtain ⟨q40_, hf⟩ := m_chkE hf
  obtain ⟨S38, e41_, hf⟩ := m_bndE hf
  have m42 : Em S38 q21 16 := em_P m38 e41_
  have m43 : Em S38 q27 17 := em_P m39 e41_
  have F_S38 : Fh S38 := fh_P F_S35 e41_
  have z_S38 : zt S ≤ zt S38 := by rw [e41_]; exact z_S35
  obtain ⟨q44_, hf⟩ := m_chkE hf
  obtain ⟨b39, -, hf⟩ := m_calE hf
  obtain ⟨q45_, hf⟩ := m_chkE hf
  obtain ⟨⟨y_o40, S_o40⟩, ho, hf⟩ := m_calE hf
  dsimp only at hf
  have o46_ := fz_X0_setUp ho
  replace o46_ := o46_
  have m47 : Em S_o40 q21 16 := em_f m42 F_S38 o46_ (by decide)
  have m48 : Em S_o40 q27 17 := em_f m43 F_S38 o46_ (by decide)
  have F_S_o40 : Fh S_o40 := (o46_ F_S38).1
  have z_S_o40 : zt S ≤ zt S_o40 := Nat.le_trans z_S38 (o46_ F_S38).2.1
  clear ho
  obtain ⟨-, hf⟩ := m_chkE hf
  cases hf
  exact ⟨q21, q27, by rw [e11_]; exact z_S20, by rw [e20_]; exact z_S26, m47, m48⟩
theorem x2_em {o : Int32 × ZS} {x0 : Nat} {S : ZS} (hF : Fh S) (hf : d_X2_init x0 S = some o) : ∃ b t, zt S ≤ b ∧ zt S ≤ t ∧ Em o.2 b 16 ∧ Em o.2 t 17 := by
  have hf : d_X2_init_0 x0 S = some o := hf
  unfold d_X2_init_0 at hf
  obtain ⟨q1, e1_, hf⟩ := m_bndE hf
  obtain ⟨S2, e2_, hf⟩ := m_bndE hf
  have F_S2 : Fh S2 := fh_O hF e1_ e2_
  have z_S2 : zt S ≤ zt S2 := by rw [e2_]; exact Nat.le_succ_of_le (Nat.le_refl _)
  obtain ⟨⟨r6, S7⟩, ho, hf⟩ := m_cal2E hf
  dsimp only at hf
  have o3_ := fz_X8_init ho
  replace o3_ := o3_
  have F_S7 : Fh S7 := (o3_ F_S2).1
  have z_S7 : zt S ≤ zt S7 := Nat.le_trans z_S2 (o3_ F_S2).2.1
  clear ho
  obtain ⟨q4_, hf⟩ := m_chkE hf
  obtain ⟨S10, e5_, hf⟩ := m_bndE hf
  have F_S10 : Fh S10 := fh_P F_S7 e5_
  have z_S10 : zt S ≤ zt S10 := by rw [e5_]; exact z_S7
  obtain ⟨q11, e6_, hf⟩ := m_bndE hf
  obtain ⟨S12, e7_, hf⟩ := m_bndE hf
  have F_S12 : Fh S12 := fh_O F_S10 e6_ e7_
  have z_S12 : zt S ≤ zt S12 := by rw [e7_]; exact Nat.le_succ_of_le z_S10
  obtain ⟨⟨r16, S17⟩, ho, hf⟩ := m_cal2E hf
  dsimp only at hf
  have o8_ := fz_X5_init ho
  replace o8_ := o8_
  have F_S17 : Fh S17 := (o8_ F_S12).1
  have z_S17 : zt S ≤ zt S17 := Nat.le_trans z_S12 (o8_ F_S12).2.1
  clear ho
  obtain ⟨q9_, hf⟩ := m_chkE hf
  obtain ⟨S20, e10_, hf⟩ := m_bndE hf
  have F_S20 : Fh S20 := fh_P F_S17 e10_
  have z_S20 : zt S ≤ zt S20 := by rw [e10_]; exact z_S17
  obtain ⟨q21, e11_, hf⟩ := m_bndE hf
  obtain ⟨S22, e12_, hf⟩ := m_bndE hf
  have F_S22 : Fh S22 := fh_O F_S20 e11_ e12_
  have z_S22 : zt S ≤ zt S22 := by rw [e12_]; exact Nat.le_succ_of_le z_S20
  obtain ⟨⟨y_o25, S_o25⟩, ho, hf⟩ := m_calE hf
  dsimp only at hf
  have o13_ := fz_X6_init ho
  replace o13_ := o13_
  have F_S_o25 : Fh S_o25 := (o13_ F_S22).1
  have z_S_o25 : zt S ≤ zt S_o25 := Nat.le_trans z_S22 (o13_ F_S22).2.1
  clear ho
  obtain ⟨-, hf⟩ := m_chkE hf
  obtain ⟨q14_, hf⟩ := m_chkE hf
  obtain ⟨S26, e15_, hf⟩ := m_bndE hf
  have F_S26 : Fh S26 := fh_P F_S_o25 e15_
  have z_S26 : zt S ≤ zt S26 := by rw [e15_]; exact z_S_o25
  obtain ⟨q27, e16_, hf⟩ := m_bndE hf
  obtain ⟨S28, e17_, hf⟩ := m_bndE hf
  have F_S28 : Fh S28 := fh_O F_S26 e16_ e17_
  have z_S28 : zt S ≤ zt S28 := by rw [e17_]; exact Nat.le_succ_of_le z_S26
  obtain ⟨⟨r32, S33⟩, ho, hf⟩ := m_cal2E hf
  dsimp only at hf
  have o18_ := fz_X1_init ho
  replace o18_ := o18_
  have F_S33 : Fh S33 := (o18_ F_S28).1
  have z_S33 : zt S ≤ zt S33 := Nat.le_trans z_S28 (o18_ F_S28).2.1
  obtain ⟨b_S33, t_S33, l_S33, g_S33, mb_S33, mt_S33⟩ := x1_em F_S28 ho
  replace mb_S33 : Em S33 b_S33 16 := mb_S33
  replace mt_S33 : Em S33 t_S33 17 := mt_S33
  clear ho
  obtain ⟨q19_, hf⟩ := m_chkE hf
  obtain ⟨S36, e20_, hf⟩ := m_bndE hf
  have m21 : Em S36 b_S33 16 := em_P mb_S33 e20_
  have m22 : Em S36 t_S33 17 := em_P mt_S33 e20_
  have F_S36 : Fh S36 := fh_P F_S33 e20_
  have z_S36 : zt S ≤ zt S36 := by rw [e20_]; exact z_S33
  obtain ⟨q23_, hf⟩ := m_chkE hf
  obtain ⟨S37, e24_, hf⟩ := m_bndE hf
  have m25 : Em S37 b_S33 16 := em_I m21 e24_
  have m26 : Em S37 t_S33 17 := em_I m22 e24_
  have F_S37 : Fh S37 := fh_I F_S36 e24_
  have z_S37 : zt S ≤ zt S37 := by rw [e24_]; exact z_S36
  obtain ⟨q27_, hf⟩ := m_chkE hf
  obtain ⟨S38, e28_, hf⟩ := m_bndE hf
  have m29 : Em S38 b_S33 16 := em_I m25 e28_
  have m30 : Em S38 t_S33 17 := em_I m26 e28_
  have F_S38 : Fh S38 := fh_I F_S37 e28_
  have z_S38 : zt S ≤ zt S38 := by rw [e28_]; exact z_S37
  obtain ⟨q39, e31_, hf⟩ := m_bndE hf
  obtain ⟨S40, e32_, hf⟩ := m_bndE hf
  have m33 : Em S40 b_S33 16 := em_O m29 e31_ e32_
  have m34 : Em S40 t_S33 17 := em_O m30 e31_ e32_
  have F_S40 : Fh S40 := fh_O F_S38 e31_ e32_
  have z_S40 : zt S ≤ zt S40 := by rw [e32_]; exact Nat.le_succ_of_le z_S38
  obtain ⟨⟨y_o43, S_o43⟩, ho, hf⟩ := m_calE hf
  dsimp only at hf
  have o35_ := fz_X6_init ho
  replace o35_ := o35_
  have m36 : Em S_o43 b_S33 16 := em_f m33 F_S40 o35_ (by decide)
  have m37 : Em S_o43 t_S33 17 := em_f m34 F_S40 o35_ (by decide)
  have F_S_o43 : Fh S_o43 := (o35_ F_S40).1
  have z_S_o43 : zt S ≤ zt S_o43 := Nat.le_trans z_S40 (o35_ F_S40).2.1
  clear ho
  obtain ⟨-, hf⟩ := m_chkE hf
  obtain ⟨q38_, hf⟩ := m_chkE hf
  obtain ⟨S44, e39_, hf⟩ := m_bndE hf
  have m40 : Em S44 b_S33 16 := em_P m36 e39_
  have m41 : Em S44 t_S33 17 := em_P m37 e39_
  have F_S44 : Fh S44 := fh_P F_S_o43 e39_
  have z_S44 : zt S ≤ zt S44 := by rw [e39_]; exact z_S_o43
  obtain ⟨q45, e42_, hf⟩ := m_bndE hf
  obtain ⟨S46, e43_, hf⟩ := m_bndE hf
  have m44 : Em S46 b_S33 16 := em_O m40 e42_ e43_
  have m45 : Em S46 t_S33 17 := em_O m41 e42_ e43_
  have F_S46 : Fh S46 := fh_O F_S44 e42_ e43_
  have z_S46 : zt S ≤ zt S46 := by rw [e43_]; exact Nat.le_succ_of_le z_S44
  obtain ⟨⟨y_o49, S_o49⟩, ho, hf⟩ := m_calE hf
  dsimp only at hf
  have o46_ := fz_X6_init ho
  replace o46_ := o46_
  have m47 : Em S_o49 b_S33 16 := em_f m44 F_S46 o46_ (by decide)
  have m48 : Em S_o49 t_S33 17 := em_f m45 F_S46 o46_ (by decide)
  have F_S_o49 : Fh S_o49 := (o46_ F_S46).1
  have z_S_o49 : zt S ≤ zt S_o49 := Nat.le_trans z_S46 (o46_ F_S46).2.1
  clear ho
  obtain ⟨-, hf⟩ := m_chkE hf
  obtain ⟨q49_, hf⟩ := m_chkE hf
  obtain ⟨S50, e50_, hf⟩ := m_bndE hf
  have m51 : Em S50 b_S33 16 := em_P m47 e50_
  have m52 : Em S50 t_S33 17 := em_P m48 e50_
  have F_S50 : Fh S50 := fh_P F_S_o49 e50_
  have z_S50 : zt S ≤ zt S50 := by rw [e50_]; exact z_S_o49
  obtain ⟨-, hf⟩ := m_chkE hf
  obtain ⟨q51, e53_, hf⟩ := m_bndE hf
  obtain ⟨S52, e54_, hf⟩ := m_bndE hf
  have m55 : Em S52 b_S33 16 := em_A m51 e53_ e54_
  have m56 : Em S52 t_S33 17 := em_A m52 e53_ e54_
  have F_S52 : Fh S52 := fh_A F_S50 e53_ e54_
  have z_S52 : zt S ≤ zt S52 := by rw [e54_]; exact Nat.le_succ_of_le z_S50
  obtain ⟨q57_, hf⟩ := m_chkE hf
  obtain ⟨S55, e58_, hf⟩ := m_bndE hf
  have m59 : Em S55 b_S33 16 := em_P m55 e58_
  have m60 : Em S55 t_S33 17 := em_P m56 e58_
  have F_S55 : Fh S55 := fh_P F_S52 e58_
  have z_S55 : zt S ≤ zt S55 := by rw [e58_]; exact z_S52
  obtain ⟨-, hf⟩ := m_chkE hf
  obtain ⟨q56, e61_, hf⟩ := m_bndE hf
  obtain ⟨S57, e62_, hf⟩ := m_bndE hf
  have m63 : Em S57 b_S33 16 := em_A m59 e61_ e62_
  have m64 : Em S57 t_S33 17 := em_A m60 e61_ e62_
  have F_S57 : Fh S57 := fh_A F_S55 e61_ e62_
  have z_S57 : zt S ≤ zt S57 := by rw [e62_]; exact Nat.le_succ_of_le z_S55
  obtain ⟨q65_, hf⟩ := m_chkE hf
  obtain ⟨S60, e66_, hf⟩ := m_bndE hf
  have m67 : Em S60 b_S33 16 := em_P m63 e66_
  have m68 : Em S60 t_S33 17 := em_P m64 e66_
  have F_S60 : Fh S60 := fh_P F_S57 e66_
  have z_S60 : zt S ≤ zt S60 := by rw [e66_]; exact z_S57
  obtain ⟨-, hf⟩ := m_chkE hf
  obtain ⟨q61, e69_, hf⟩ := m_bndE hf
  obtain ⟨S62, e70_, hf⟩ := m_bndE hf
  have m71 : Em S62 b_S33 16 := em_A m67 e69_ e70_
  have m72 : Em S62 t_S33 17 := em_A m68 e69_ e70_
  have F_S62 : Fh S62 := fh_A F_S60 e69_ e70_
  have z_S62 : zt S ≤ zt S62 := by rw [e70_]; exact Nat.le_succ_of_le z_S60
  obtain ⟨q73_, hf⟩ := m_chkE hf
  obtain ⟨S65, e74_, hf⟩ := m_bndE hf
  have m75 : Em S65 b_S33 16 := em_P m71 e74_
  have m76 : Em S65 t_S33 17 := em_P m72 e74_
  have F_S65 : Fh S65 := fh_P F_S62 e74_
  have z_S65 : zt S ≤ zt S65 := by rw [e74_]; exact z_S62
  obtain ⟨-, hf⟩ := m_chkE hf
  obtain ⟨q66, e77_, hf⟩ := m_bndE hf
  obtain ⟨S67, e78_, hf⟩ := m_bndE hf
  have m79 : Em S67 b_S33 16 := em_A m75 e77_ e78_
  have m80 : Em S67 t_S33 17 := em_A m76 e77_ e78_
  have F_S67 : Fh S67 := fh_A F_S65 e77_ e78_
  have z_S67 : zt S ≤ zt S67 := by rw [e78_]; exact Nat.le_succ_of_le z_S65
  obtain ⟨q81_, hf⟩ := m_chkE hf
  obtain ⟨S70, e82_, hf⟩ := m_bndE hf
  have m83 : Em S70 b_S33 16 := em_P m79 e82_
  have m84 : Em S70 t_S33 17 := em_P m80 e82_
  have F_S70 : Fh S70 := fh_P F_S67 e82_
  have z_S70 : zt S ≤ zt S70 := by rw [e82_]; exact z_S67
  have o85_ := fz_X2_init_116 _ _ _ _ _ hf
  have m86 : Em o.2 b_S33 16 := em_f m83 F_S70 o85_ (by decide)
  have m87 : Em o.2 t_S33 17 := em_f m84 F_S70 o85_ (by decide)
  exact ⟨b_S33, t_S33, Nat.le_trans z_S28 l_S33, Nat.le_trans z_S28 g_S33, m86, m87⟩
theorem x11_em {o : Int32 × ZS} {x0 : Nat} {S : ZS} (hF : Fh S) (hf : d_X11_init x0 S = some o) : ∃ b b' t t', (Em o.2 b 16 ∧ Em o.2 b' 16 ∧ b ≠ b') ∧ (Em o.2 t 17 ∧ Em o.2 t' 17 ∧ t ≠ t') ∧ Fh o.2 := by
  have hf : d_X11_init_0 x0 S = some o := hf
  unfold d_X11_init_0 at hf
  obtain ⟨q1, e1_, hf⟩ := m_bndE hf
  obtain ⟨S2, e2_, hf⟩ := m_bndE hf
  have F_S2 : Fh S2 := fh_O hF e1_ e2_
  have z_S2 : zt S ≤ zt S2 := by rw [e2_]; exact Nat.le_succ_of_le (Nat.le_refl _)
  obtain ⟨⟨y_o5, S_o5⟩, ho, hf⟩ := m_calE hf
  dsimp only at hf
  have o3_ := fz_X6_init ho
  replace o3_ := o3_
  have F_S_o5 : Fh S_o5 := (o3_ F_S2).1
  have z_S_o5 : zt S ≤ zt S_o5 := Nat.le_trans z_S2 (o3_ F_S2).2.1
  clear ho
  obtain ⟨-, hf⟩ := m_chkE hf
  obtain ⟨q4_, hf⟩ := m_chkE hf
  obtain ⟨S6, e5_, hf⟩ := m_bndE hf
  have F_S6 : Fh S6 := fh_P F_S_o5 e5_
  have z_S6 : zt S ≤ zt S6 := by rw [e5_]; exact z_S_o5
  obtain ⟨q7, e6_, hf⟩ := m_bndE hf
  obtain ⟨S8, e7_, hf⟩ := m_bndE hf
  have F_S8 : Fh S8 := fh_O F_S6 e6_ e7_
  have z_S8 : zt S ≤ zt S8 := by rw [e7_]; exact Nat.le_succ_of_le z_S6
  obtain ⟨⟨y_o11, S_o11⟩, ho, hf⟩ := m_calE hf
  dsimp only at hf
  have o8_ := fz_X6_init ho
  replace o8_ := o8_
  have F_S_o11 : Fh S_o11 := (o8_ F_S8).1
  have z_S_o11 : zt S ≤ zt S_o11 := Nat.le_trans z_S8 (o8_ F_S8).2.1
  clear ho
  obtain ⟨-, hf⟩ := m_chkE hf
  obtain ⟨q9_, hf⟩ := m_chkE hf
  obtain ⟨S12, e10_, hf⟩ := m_bndE hf
  have F_S12 : Fh S12 := fh_P F_S_o11 e10_
  have z_S12 : zt S ≤ zt S12 := by rw [e10_]; exact z_S_o11
  obtain ⟨q13, e11_, hf⟩ := m_bndE hf
  obtain ⟨S14, e12_, hf⟩ := m_bndE hf
  have F_S14 : Fh S14 := fh_O F_S12 e11_ e12_
  have z_S14 : zt S ≤ zt S14 := by rw [e12_]; exact Nat.le_succ_of_le z_S12
  obtain ⟨⟨r18, S19⟩, ho, hf⟩ := m_cal2E hf
  dsimp only at hf
  have o13_ := fz_X7_init ho
  replace o13_ := o13_
  have F_S19 : Fh S19 := (o13_ F_S14).1
  have z_S19 : zt S ≤ zt S19 := Nat.le_trans z_S14 (o13_ F_S14).2.1
  clear ho
  obtain ⟨q14_, hf⟩ := m_chkE hf
  obtain ⟨S22, e15_, hf⟩ := m_bndE hf
  have F_S22 : Fh S22 := fh_P F_S19 e15_
  have z_S22 : zt S ≤ zt S22 := by rw [e15_]; exact z_S19
  obtain ⟨q23, e16_, hf⟩ := m_bndE hf
  obtain ⟨S24, e17_, hf⟩ := m_bndE hf
  have F_S24 : Fh S24 := fh_O F_S22 e16_ e17_
  have z_S24 : zt S ≤ zt S24 := by rw [e17_]; exact Nat.le_succ_of_le z_S22
  obtain ⟨⟨r28, S29⟩, ho, hf⟩ := m_cal2E hf
  dsimp only at hf
  have o18_ := fz_X8_init ho
  replace o18_ := o18_
  have F_S29 : Fh S29 := (o18_ F_S24).1
  have z_S29 : zt S ≤ zt S29 := Nat.le_trans z_S24 (o18_ F_S24).2.1
  clear ho
  obtain ⟨q19_, hf⟩ := m_chkE hf
  obtain ⟨S32, e20_, hf⟩ := m_bndE hf
  have F_S32 : Fh S32 := fh_P F_S29 e20_
  have z_S32 : zt S ≤ zt S32 := by rw [e20_]; exact z_S29
  obtain ⟨q33, e21_, hf⟩ := m_bndE hf
  obtain ⟨S34, e22_, hf⟩ := m_bndE hf
  have F_S34 : Fh S34 := fh_O F_S32 e21_ e22_
  have z_S34 : zt S ≤ zt S34 := by rw [e22_]; exact Nat.le_succ_of_le z_S32
  obtain ⟨⟨r38, S39⟩, ho, hf⟩ := m_cal2E hf
  dsimp only at hf
  have o23_ := fz_X9_init ho
  replace o23_ := o23_
  have F_S39 : Fh S39 := (o23_ F_S34).1
  have z_S39 : zt S ≤ zt S39 := Nat.le_trans z_S34 (o23_ F_S34).2.1
  clear ho
  obtain ⟨q24_, hf⟩ := m_chkE hf
  obtain ⟨S42, e25_, hf⟩ := m_bndE hf
  have F_S42 : Fh S42 := fh_P F_S39 e25_
  have z_S42 : zt S ≤ zt S42 := by rw [e25_]; exact z_S39
  obtain ⟨q43, e26_, hf⟩ := m_bndE hf
  obtain ⟨S44, e27_, hf⟩ := m_bndE hf
  have F_S44 : Fh S44 := fh_O F_S42 e26_ e27_
  have z_S44 : zt S ≤ zt S44 := by rw [e27_]; exact Nat.le_succ_of_le z_S42
  obtain ⟨⟨r48, S49⟩, ho, hf⟩ := m_cal2E hf
  dsimp only at hf
  have o28_ := fz_X2_init ho
  replace o28_ := o28_
  have F_S49 : Fh S49 := (o28_ F_S44).1
  have z_S49 : zt S ≤ zt S49 := Nat.le_trans z_S44 (o28_ F_S44).2.1
  obtain ⟨b_S49, t_S49, l_S49, g_S49, mb_S49, mt_S49⟩ := x2_em F_S44 ho
  replace mb_S49 : Em S49 b_S49 16 := mb_S49
  replace mt_S49 : Em S49 t_S49 17 := mt_S49
  clear ho
  obtain ⟨q29_, hf⟩ := m_chkE hf
  obtain ⟨S52, e30_, hf⟩ := m_bndE hf
  have m31 : Em S52 b_S49 16 := em_P mb_S49 e30_
  have m32 : Em S52 t_S49 17 := em_P mt_S49 e30_
  have F_S52 : Fh S52 := fh_P F_S49 e30_
  have z_S52 : zt S ≤ zt S52 := by rw [e30_]; exact z_S49
  obtain ⟨q53, e33_, hf⟩ := m_bndE hf
  obtain ⟨S54, e34_, hf⟩ := m_bndE hf
  have m35 : Em S54 b_S49 16 := em_O m31 e33_ e34_
  have m36 : Em S54 t_S49 17 := em_O m32 e33_ e34_
  have F_S54 : Fh S54 := fh_O F_S52 e33_ e34_
  have z_S54 : zt S ≤ zt S54 := by rw [e34_]; exact Nat.le_succ_of_le z_S52
  obtain ⟨⟨r58, S59⟩, ho, hf⟩ := m_cal2E hf
  dsimp only at hf
  have o37_ := fz_X3_init ho
  replace o37_ := o37_
  have m38 : Em S59 b_S49 16 := em_f m35 F_S54 o37_ (by decide)
  have m39 : Em S59 t_S49 17 := em_f m36 F_S54 o37_ (by decide)
  have F_S59 : Fh S59 := (o37_ F_S54).1
  have z_S59 : zt S ≤ zt S59 := Nat.le_trans z_S54 (o37_ F_S54).2.1
  clear ho
  obtain ⟨q40_, hf⟩ := m_chkE hf
  obtain ⟨S62, e41_, hf⟩ := m_bndE hf
  have m42 : Em S62 b_S49 16 := em_P m38 e41_
  have m43 : Em S62 t_S49 17 := em_P m39 e41_
  have F_S62 : Fh S62 := fh_P F_S59 e41_
  have z_S62 : zt S ≤ zt S62 := by rw [e41_]; exact z_S59
  obtain ⟨q63, e44_, hf⟩ := m_bndE hf
  obtain ⟨S64, e45_, hf⟩ := m_bndE hf
  have m46 : Em S64 b_S49 16 := em_O m42 e44_ e45_
  have m47 : Em S64 t_S49 17 := em_O m43 e44_ e45_
  have F_S64 : Fh S64 := fh_O F_S62 e44_ e45_
  have z_S64 : zt S ≤ zt S64 := by rw [e45_]; exact Nat.le_succ_of_le z_S62
  obtain ⟨⟨r68, S69⟩, ho, hf⟩ := m_cal2E hf
  dsimp only at hf
  have o48_ := fz_X1_init ho
  replace o48_ := o48_
  have m49 : Em S69 b_S49 16 := em_f m46 F_S64 o48_ (by decide)
  have m50 : Em S69 t_S49 17 := em_f m47 F_S64 o48_ (by decide)
  have F_S69 : Fh S69 := (o48_ F_S64).1
  have z_S69 : zt S ≤ zt S69 := Nat.le_trans z_S64 (o48_ F_S64).2.1
  obtain ⟨b_S69, t_S69, l_S69, g_S69, mb_S69, mt_S69⟩ := x1_em F_S64 ho
  replace mb_S69 : Em S69 b_S69 16 := mb_S69
  replace mt_S69 : Em S69 t_S69 17 := mt_S69
  clear ho
  obtain ⟨q51_, hf⟩ := m_chkE hf
  obtain ⟨S72, e52_, hf⟩ := m_bndE hf
  have m53 : Em S72 b_S49 16 := em_P m49 e52_
  have m54 : Em S72 t_S49 17 := em_P m50 e52_
  have m55 : Em S72 b_S69 16 := em_P mb_S69 e52_
  have m56 : Em S72 t_S69 17 := em_P mt_S69 e52_
  have F_S72 : Fh S72 := fh_P F_S69 e52_
  have z_S72 : zt S ≤ zt S72 := by rw [e52_]; exact z_S69
  obtain ⟨q57_, hf⟩ := m_chkE hf
  obtain ⟨S73, e58_, hf⟩ := m_bndE hf
  have m59 : Em S73 b_S49 16 := em_I m53 e58_
  have m60 : Em S73 t_S49 17 := em_I m54 e58_
  have m61 : Em S73 b_S69 16 := em_I m55 e58_
  have m62 : Em S73 t_S69 17 := em_I m56 e58_
  have F_S73 : Fh S73 := fh_I F_S72 e58_
  have z_S73 : zt S ≤ zt S73 := by rw [e58_]; exact z_S72
  obtain ⟨q74, e63_, hf⟩ := m_bndE hf
  obtain ⟨S75, e64_, hf⟩ := m_bndE hf
  have m65 : Em S75 b_S49 16 := em_O m59 e63_ e64_
  have m66 : Em S75 t_S49 17 := em_O m60 e63_ e64_
  have m67 : Em S75 b_S69 16 := em_O m61 e63_ e64_
  have m68 : Em S75 t_S69 17 := em_O m62 e63_ e64_
  have F_S75 : Fh S75 := fh_O F_S73 e63_ e64_
  have z_S75 : zt S ≤ zt S75 := by rw [e64_]; exact Nat.le_succ_of_le z_S73
  obtain ⟨⟨r79, S80⟩, ho, hf⟩ := m_cal2E hf
  dsimp only at hf
  have o69_ := fz_X0_init ho
  replace o69_ := o69_
  have m70 : Em S80 b_S49 16 := em_f m65 F_S75 o69_ (by decide)
  have m71 : Em S80 t_S49 17 := em_f m66 F_S75 o69_ (by decide)
  have m72 : Em S80 b_S69 16 := em_f m67 F_S75 o69_ (by decide)
  have m73 : Em S80 t_S69 17 := em_f m68 F_S75 o69_ (by decide)
  have F_S80 : Fh S80 := (o69_ F_S75).1
  have z_S80 : zt S ≤ zt S80 := Nat.le_trans z_S75 (o69_ F_S75).2.1
  clear ho
  obtain ⟨q74_, hf⟩ := m_chkE hf
  obtain ⟨S83, e75_, hf⟩ := m_bndE hf
  have m76 : Em S83 b_S49 16 := em_P m70 e75_
  have m77 : Em S83 t_S49 17 := em_P m71 e75_
  have m78 : Em S83 b_S69 16 := em_P m72 e75_
  have m79 : Em S83 t_S69 17 := em_P m73 e75_
  have F_S83 : Fh S83 := fh_P F_S80 e75_
  have z_S83 : zt S ≤ zt S83 := by rw [e75_]; exact z_S80
  obtain ⟨q80_, hf⟩ := m_chkE hf
  obtain ⟨b84, -, hf⟩ := m_calE hf
  obtain ⟨q81_, hf⟩ := m_chkE hf
  obtain ⟨⟨y_o85, S_o85⟩, ho, hf⟩ := m_calE hf
  dsimp only at hf
  have o82_ := fz_X0_setUp ho
  replace o82_ := o82_
  have m83 : Em S_o85 b_S49 16 := em_f m76 F_S83 o82_ (by decide)
  have m84 : Em S_o85 t_S49 17 := em_f m77 F_S83 o82_ (by decide)
  have m85 : Em S_o85 b_S69 16 := em_f m78 F_S83 o82_ (by decide)
  have m86 : Em S_o85 t_S69 17 := em_f m79 F_S83 o82_ (by decide)
  have F_S_o85 : Fh S_o85 := (o82_ F_S83).1
  have z_S_o85 : zt S ≤ zt S_o85 := Nat.le_trans z_S83 (o82_ F_S83).2.1
  clear ho
  obtain ⟨-, hf⟩ := m_chkE hf
  cases hf
  exact ⟨b_S49, b_S69, t_S49, t_S69, ⟨m83, m85, Nat.ne_of_lt (Nat.lt_of_lt_of_le m46.2.2 l_S69)⟩, ⟨m84, m86, Nat.ne_of_lt (Nat.lt_of_lt_of_le m47.2.2 g_S69)⟩, F_S_o85⟩
