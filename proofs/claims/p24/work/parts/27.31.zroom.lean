section
/-- the same room and the same pool -/
noncomputable def EqT (S S' : ZS) : Prop := zt S' = zt S ∧ zu S' = zu S ∧ zK S' = zK S ∧ zN S' = zN S ∧ zB S' = zB S
section FQ
variable {S S1 S2 : ZS}
theorem eqt_0 : EqT S S := ⟨rfl, rfl, rfl, rfl, rfl⟩
theorem eqt_t (h : EqT S S1) (h2 : EqT S1 S2) : EqT S S2 := ⟨h2.1.trans h.1, h2.2.1.trans h.2.1, h2.2.2.1.trans h.2.2.1, h2.2.2.2.1.trans h.2.2.2.1, h2.2.2.2.2.trans h.2.2.2.2⟩
theorem eqt_I {j a : Nat} {v : Int32} (h : EqT S S1) (e : S2 = zsI S1 j a v) : EqT S S2 := eqt_t h (by subst e; exact ⟨rfl, rfl, rfl, rfl, rfl⟩)
theorem eqt_P {j a : Nat} {v : Option Nat} (h : EqT S S1) (e : S2 = zsP S1 j a v) : EqT S S2 := eqt_t h (by subst e; exact ⟨rfl, rfl, rfl, rfl, rfl⟩)
theorem eqt_A {a i : Nat} {v : Int32} (h : EqT S S1) (e : S2 = zsA S1 a i v) : EqT S S2 := eqt_t h (by subst e; exact ⟨rfl, rfl, rfl, rfl, rfl⟩)
theorem eqt_C {b a sp dp n : Nat} (h : EqT S S1) (e : S2 = zsC S1 b a sp dp n) : EqT S S2 := eqt_t h (by subst e; exact ⟨rfl, rfl, rfl, rfl, rfl⟩)
end FQ

theorem fq_X0_wipe_2s {o : Int32 × ZS} {self2 : Nat → Int32 → ZS → Option (Int32 × ZS)} {x0 : Nat} {x1 : Int32} {S : ZS} (hself2 : ∀ (z0 : Nat) (z1 : Int32) (S : ZS) (o : Int32 × ZS), self2 z0 z1 S = some o → EqT S o.2) (hf : f_X0_wipe_2s self2 x0 x1 S = some o)   : EqT S o.2 := by
  have h_S : EqT S S := eqt_0
  unfold f_X0_wipe_2s at hf
  rcases m_ifE hf with ⟨-, hf⟩ | ⟨-, hf⟩
  ·
    obtain ⟨q1, hf⟩ := m_chkE hf
    obtain ⟨S1, e2, hf⟩ := m_bndE hf
    have h_S1 := eqt_I h_S e2
    obtain ⟨q3, hf⟩ := m_chkE hf
    obtain ⟨S2, e4, hf⟩ := m_bndE hf
    have h_S2 := eqt_I h_S1 e4
    obtain ⟨q5, hf⟩ := m_chkE hf
    obtain ⟨S3, e6, hf⟩ := m_bndE hf
    have h_S3 := eqt_I h_S2 e6
    obtain ⟨q7, hf⟩ := m_chkE hf
    obtain ⟨S4, e8, hf⟩ := m_bndE hf
    have h_S4 := eqt_I h_S3 e8
    cases hf
    exact h_S4
  ·
    obtain ⟨q9, hf⟩ := m_chkE hf
    obtain ⟨b5, -, hf⟩ := m_calE hf
    obtain ⟨q10, hf⟩ := m_chkE hf
    obtain ⟨-, hf⟩ := m_chkE hf
    obtain ⟨S6, e11, hf⟩ := m_bndE hf
    have h_S6 := eqt_A h_S e11
    obtain ⟨v7, e12, hf⟩ := m_bndE hf
    exact eqt_t h_S6 (hself2 _ _ _ _ hf)
theorem fq_X0_wipe_2   (n : Nat) : ∀ (y0 : Nat) (y1 : Int32) (S : ZS) (o : Int32 × ZS), f_X0_wipe_2  n y0 y1 S = some o → EqT S o.2 := by
  induction n with
  | zero => intro y0 y1 S o hf; cases hf
  | succ n ih => intro y0 y1 S o hf; exact fq_X0_wipe_2s  ih hf
theorem fq_X0_wipe_0 {o : Int32 × ZS} {x0 : Nat} {S : ZS}  (hf : f_X0_wipe_0 x0 S = some o)   : EqT S o.2 := by
  have h_S : EqT S S := eqt_0
  unfold f_X0_wipe_0 at hf
  exact eqt_t h_S (fq_X0_wipe_2  _ _ _ _ _ hf)
theorem fq_X0_wipe {o : Int32 × ZS} {x0 : Nat} {S : ZS}  (hf : f_X0_wipe x0 S = some o)   : EqT S o.2 := by
  have h_S : EqT S S := eqt_0
  unfold f_X0_wipe at hf
  exact eqt_t h_S (fq_X0_wipe_0  hf)
theorem fq_X0_put_32 {o : Int32 × ZS} {S : ZS}  (hf : f_X0_put_32 S = some o)   : EqT S o.2 := by
  have h_S : EqT S S := eqt_0
  unfold f_X0_put_32 at hf
  cases hf
  exact h_S
theorem fq_X0_put_0 {o : Int32 × ZS} {x0 : Nat} {x1 : Int32} {x2 : Int32} {S : ZS}  (hf : f_X0_put_0 x0 x1 x2 S = some o)   : EqT S o.2 := by
  have h_S : EqT S S := eqt_0
  unfold f_X0_put_0 at hf
  obtain ⟨q1, hf⟩ := m_chkE hf
  obtain ⟨b1, -, hf⟩ := m_calE hf
  obtain ⟨q2, hf⟩ := m_chkE hf
  obtain ⟨-, hf⟩ := m_chkE hf
  obtain ⟨S2, e3, hf⟩ := m_bndE hf
  have h_S2 := eqt_A h_S e3
  rcases m_ifE hf with ⟨-, hf⟩ | ⟨-, hf⟩
  ·
    obtain ⟨q4, hf⟩ := m_chkE hf
    obtain ⟨S4, e5, hf⟩ := m_bndE hf
    have h_S4 := eqt_I h_S2 e5
    exact eqt_t h_S4 (fq_X0_put_32  hf)
  ·
    rcases m_ifE hf with ⟨-, hf⟩ | ⟨-, hf⟩
    ·
      obtain ⟨q6, hf⟩ := m_chkE hf
      obtain ⟨S3, e7, hf⟩ := m_bndE hf
      have h_S3 := eqt_I h_S2 e7
      exact eqt_t h_S3 (fq_X0_put_32  hf)
    ·
      exact eqt_t h_S2 (fq_X0_put_32  hf)
theorem fq_X0_put {o : Int32 × ZS} {x0 : Nat} {x1 : Int32} {x2 : Int32} {S : ZS}  (hf : f_X0_put x0 x1 x2 S = some o)   : EqT S o.2 := by
  have h_S : EqT S S := eqt_0
  unfold f_X0_put at hf
  exact eqt_t h_S (fq_X0_put_0  hf)
theorem fq_X0_setUp_6s {o : Int32 × ZS} {self6 : Nat → Int32 → ZS → Option (Int32 × ZS)} {x0 : Nat} {x1 : Int32} {S : ZS} (hself6 : ∀ (z0 : Nat) (z1 : Int32) (S : ZS) (o : Int32 × ZS), self6 z0 z1 S = some o → EqT S o.2) (hf : f_X0_setUp_6s self6 x0 x1 S = some o)   : EqT S o.2 := by
  have h_S : EqT S S := eqt_0
  unfold f_X0_setUp_6s at hf
  rcases m_ifE hf with ⟨-, hf⟩ | ⟨-, hf⟩
  ·
    obtain ⟨q1, hf⟩ := m_chkE hf
    obtain ⟨S1, e2, hf⟩ := m_bndE hf
    have h_S1 := eqt_I h_S e2
    cases hf
    exact h_S1
  ·
    obtain ⟨-, hf⟩ := m_chkE hf
    obtain ⟨v2, e3, hf⟩ := m_bndE hf
    obtain ⟨q4, hf⟩ := m_chkE hf
    obtain ⟨o3, ho, hf⟩ := m_calE hf
    have h_o3 := eqt_t h_S (fq_X0_put ho)
    clear ho
    obtain ⟨v4, e5, hf⟩ := m_bndE hf
    obtain ⟨q6, hf⟩ := m_chkE hf
    obtain ⟨o5, ho, hf⟩ := m_calE hf
    have h_o5 := eqt_t h_o3 (fq_X0_put ho)
    clear ho
    obtain ⟨v6, e7, hf⟩ := m_bndE hf
    obtain ⟨q8, hf⟩ := m_chkE hf
    obtain ⟨o7, ho, hf⟩ := m_calE hf
    have h_o7 := eqt_t h_o5 (fq_X0_put ho)
    clear ho
    obtain ⟨v8, e9, hf⟩ := m_bndE hf
    obtain ⟨-, hf⟩ := m_chkE hf
    obtain ⟨v9, e10, hf⟩ := m_bndE hf
    obtain ⟨v10, e11, hf⟩ := m_bndE hf
    obtain ⟨q12, hf⟩ := m_chkE hf
    obtain ⟨o11, ho, hf⟩ := m_calE hf
    have h_o11 := eqt_t h_o7 (fq_X0_put ho)
    clear ho
    obtain ⟨v12, e13, hf⟩ := m_bndE hf
    exact eqt_t h_o11 (hself6 _ _ _ _ hf)
theorem fq_X0_setUp_6   (n : Nat) : ∀ (y0 : Nat) (y1 : Int32) (S : ZS) (o : Int32 × ZS), f_X0_setUp_6  n y0 y1 S = some o → EqT S o.2 := by
  induction n with
  | zero => intro y0 y1 S o hf; cases hf
  | succ n ih => intro y0 y1 S o hf; exact fq_X0_setUp_6s  ih hf
theorem fq_X0_setUp_0 {o : Int32 × ZS} {x0 : Nat} {S : ZS}  (hf : f_X0_setUp_0 x0 S = some o)   : EqT S o.2 := by
  have h_S : EqT S S := eqt_0
  unfold f_X0_setUp_0 at hf
  obtain ⟨q1, hf⟩ := m_chkE hf
  obtain ⟨o1, ho, hf⟩ := m_calE hf
  have h_o1 := eqt_t h_S (fq_X0_wipe ho)
  clear ho
  exact eqt_t h_o1 (fq_X0_setUp_6  _ _ _ _ _ hf)
theorem fq_X0_setUp {o : Int32 × ZS} {x0 : Nat} {S : ZS}  (hf : f_X0_setUp x0 S = some o)   : EqT S o.2 := by
  have h_S : EqT S S := eqt_0
  unfold f_X0_setUp at hf
  exact eqt_t h_S (fq_X0_setUp_0  hf)
theorem fq_X0_copyFrom_0 {o : Int32 × ZS} {x0 : Nat} {x1 : Nat} {S : ZS}  (hf : f_X0_copyFrom_0 x0 x1 S = some o)   : EqT S o.2 := by
  have h_S : EqT S S := eqt_0
  unfold f_X0_copyFrom_0 at hf
  obtain ⟨q1, hf⟩ := m_chkE hf
  obtain ⟨b1, -, hf⟩ := m_calE hf
  obtain ⟨q2, hf⟩ := m_chkE hf
  obtain ⟨b2, -, hf⟩ := m_calE hf
  obtain ⟨q3, hf⟩ := m_chkE hf
  obtain ⟨q4, hf⟩ := m_chkE hf
  obtain ⟨-, hf⟩ := m_chkE hf
  obtain ⟨S3, e5, hf⟩ := m_bndE hf
  have h_S3 := eqt_C h_S e5
  obtain ⟨q6, hf⟩ := m_chkE hf
  obtain ⟨q7, hf⟩ := m_chkE hf
  obtain ⟨S4, e8, hf⟩ := m_bndE hf
  have h_S4 := eqt_I h_S3 e8
  obtain ⟨q9, hf⟩ := m_chkE hf
  obtain ⟨q10, hf⟩ := m_chkE hf
  obtain ⟨S5, e11, hf⟩ := m_bndE hf
  have h_S5 := eqt_I h_S4 e11
  obtain ⟨q12, hf⟩ := m_chkE hf
  obtain ⟨q13, hf⟩ := m_chkE hf
  obtain ⟨S6, e14, hf⟩ := m_bndE hf
  have h_S6 := eqt_I h_S5 e14
  obtain ⟨q15, hf⟩ := m_chkE hf
  obtain ⟨q16, hf⟩ := m_chkE hf
  obtain ⟨S7, e17, hf⟩ := m_bndE hf
  have h_S7 := eqt_I h_S6 e17
  obtain ⟨q18, hf⟩ := m_chkE hf
  obtain ⟨q19, hf⟩ := m_chkE hf
  obtain ⟨S8, e20, hf⟩ := m_bndE hf
  have h_S8 := eqt_I h_S7 e20
  obtain ⟨q21, hf⟩ := m_chkE hf
  obtain ⟨q22, hf⟩ := m_chkE hf
  obtain ⟨S9, e23, hf⟩ := m_bndE hf
  have h_S9 := eqt_I h_S8 e23
  cases hf
  exact h_S9
theorem fq_X0_copyFrom {o : Int32 × ZS} {x0 : Nat} {x1 : Nat} {S : ZS}  (hf : f_X0_copyFrom x0 x1 S = some o)   : EqT S o.2 := by
  have h_S : EqT S S := eqt_0
  unfold f_X0_copyFrom at hf
  exact eqt_t h_S (fq_X0_copyFrom_0  hf)
theorem fq_X0_kindAt_0 {o : Int32 × ZS} {x0 : Nat} {x1 : Int32} {S : ZS}  (hf : f_X0_kindAt_0 x0 x1 S = some o)   : EqT S o.2 := by
  have h_S : EqT S S := eqt_0
  unfold f_X0_kindAt_0 at hf
  obtain ⟨q1, hf⟩ := m_chkE hf
  obtain ⟨b1, -, hf⟩ := m_calE hf
  obtain ⟨q2, hf⟩ := m_chkE hf
  obtain ⟨-, hf⟩ := m_chkE hf
  obtain ⟨v2, e3, hf⟩ := m_bndE hf
  obtain ⟨v3, e4, hf⟩ := m_bndE hf
  cases hf
  exact h_S
theorem fq_X0_kindAt {o : Int32 × ZS} {x0 : Nat} {x1 : Int32} {S : ZS}  (hf : f_X0_kindAt x0 x1 S = some o)   : EqT S o.2 := by
  have h_S : EqT S S := eqt_0
  unfold f_X0_kindAt at hf
  exact eqt_t h_S (fq_X0_kindAt_0  hf)
theorem fq_X0_kingOf_15 {o : Int32 × ZS} {t0 : Int32} {S : ZS}  (hf : f_X0_kingOf_15 t0 S = some o)   : EqT S o.2 := by
  have h_S : EqT S S := eqt_0
  unfold f_X0_kingOf_15 at hf
  cases hf
  exact h_S
theorem fq_X0_kingOf_0 {o : Int32 × ZS} {x0 : Nat} {x1 : Int32} {S : ZS}  (hf : f_X0_kingOf_0 x0 x1 S = some o)   : EqT S o.2 := by
  have h_S : EqT S S := eqt_0
  unfold f_X0_kingOf_0 at hf
  rcases m_ifE hf with ⟨-, hf⟩ | ⟨-, hf⟩
  ·
    obtain ⟨q1, hf⟩ := m_chkE hf
    exact eqt_t h_S (fq_X0_kingOf_15  hf)
  ·
    obtain ⟨q2, hf⟩ := m_chkE hf
    exact eqt_t h_S (fq_X0_kingOf_15  hf)
theorem fq_X0_kingOf {o : Int32 × ZS} {x0 : Nat} {x1 : Int32} {S : ZS}  (hf : f_X0_kingOf x0 x1 S = some o)   : EqT S o.2 := by
  have h_S : EqT S S := eqt_0
  unfold f_X0_kingOf at hf
  exact eqt_t h_S (fq_X0_kingOf_0  hf)
theorem fq_X0_attacks_235 {o : Int32 × ZS} {S : ZS}  (hf : f_X0_attacks_235 S = some o)   : EqT S o.2 := by
  have h_S : EqT S S := eqt_0
  unfold f_X0_attacks_235 at hf
  obtain ⟨-, hf⟩ := m_chkE hf
  cases hf
  exact h_S
theorem fq_X0_attacks_281s {o : Int32 × ZS} {self281 : Nat → Int32 → Int32 → Int32 → Int32 → ZS → Option (Int32 × ZS)} {x0 : Nat} {x1 : Int32} {x8 : Int32} {x11 : Int32} {x12 : Int32} {S : ZS} (hself281 : ∀ (z0 : Nat) (z1 : Int32) (z2 : Int32) (z3 : Int32) (z4 : Int32) (S : ZS) (o : Int32 × ZS), self281 z0 z1 z2 z3 z4 S = some o → EqT S o.2) (hf : f_X0_attacks_281s self281 x0 x1 x8 x11 x12 S = some o)   : EqT S o.2 := by
  have h_S : EqT S S := eqt_0
  unfold f_X0_attacks_281s at hf
  rcases m_ifE hf with ⟨-, hf⟩ | ⟨-, hf⟩
  ·
    obtain ⟨-, hf⟩ := m_chkE hf
    cases hf
    exact h_S
  ·
    obtain ⟨q1, hf⟩ := m_chkE hf
    obtain ⟨b1, -, hf⟩ := m_calE hf
    obtain ⟨v2, e2, hf⟩ := m_bndE hf
    obtain ⟨v3, e3, hf⟩ := m_bndE hf
    obtain ⟨q4, hf⟩ := m_chkE hf
    obtain ⟨-, hf⟩ := m_chkE hf
    obtain ⟨v4, e5, hf⟩ := m_bndE hf
    rcases m_ifE hf with ⟨-, hf⟩ | ⟨-, hf⟩
    ·
      obtain ⟨v5, e6, hf⟩ := m_bndE hf
      exact eqt_t h_S (hself281 _ _ _ _ _ _ _ hf)
    ·
      obtain ⟨-, hf⟩ := m_chkE hf
      cases hf
      exact h_S
theorem fq_X0_attacks_281   (n : Nat) : ∀ (y0 : Nat) (y1 : Int32) (y2 : Int32) (y3 : Int32) (y4 : Int32) (S : ZS) (o : Int32 × ZS), f_X0_attacks_281  n y0 y1 y2 y3 y4 S = some o → EqT S o.2 := by
  induction n with
  | zero => intro y0 y1 y2 y3 y4 S o hf; cases hf
  | succ n ih => intro y0 y1 y2 y3 y4 S o hf; exact fq_X0_attacks_281s  ih hf
theorem fq_X0_attacks_275 {o : Int32 × ZS} {x0 : Nat} {x1 : Int32} {x8 : Int32} {t0 : Int32} {t1 : Int32} {S : ZS}  (hf : f_X0_attacks_275 x0 x1 x8 t0 t1 S = some o)   : EqT S o.2 := by
  have h_S : EqT S S := eqt_0
  unfold f_X0_attacks_275 at hf
  obtain ⟨v1, e1, hf⟩ := m_bndE hf
  exact eqt_t h_S (fq_X0_attacks_281  _ _ _ _ _ _ _ _ hf)
theorem fq_X0_attacks_254 {o : Int32 × ZS} {x0 : Nat} {x1 : Int32} {x4 : Int32} {x8 : Int32} {t0 : Int32} {S : ZS}  (hf : f_X0_attacks_254 x0 x1 x4 x8 t0 S = some o)   : EqT S o.2 := by
  have h_S : EqT S S := eqt_0
  unfold f_X0_attacks_254 at hf
  rcases m_ifE hf with ⟨-, hf⟩ | ⟨-, hf⟩
  ·
    rcases m_ifE hf with ⟨-, hf⟩ | ⟨-, hf⟩
    ·
      exact eqt_t h_S (fq_X0_attacks_275  hf)
    ·
      exact eqt_t h_S (fq_X0_attacks_275  hf)
  ·
    exact eqt_t h_S (fq_X0_attacks_275  hf)
theorem fq_X0_attacks_223 {o : Int32 × ZS} {x0 : Nat} {x1 : Int32} {x3 : Int32} {x4 : Int32} {x8 : Int32} {t0 : Int32} {S : ZS}  (hf : f_X0_attacks_223 x0 x1 x3 x4 x8 t0 S = some o)   : EqT S o.2 := by
  have h_S : EqT S S := eqt_0
  unfold f_X0_attacks_223 at hf
  rcases m_ifE hf with ⟨-, hf⟩ | ⟨-, hf⟩
  ·
    exact eqt_t h_S (fq_X0_attacks_235  hf)
  ·
    rcases m_ifE hf with ⟨-, hf⟩ | ⟨-, hf⟩
    ·
      exact eqt_t h_S (fq_X0_attacks_235  hf)
    ·
      rcases m_ifE hf with ⟨-, hf⟩ | ⟨-, hf⟩
      ·
        rcases m_ifE hf with ⟨-, hf⟩ | ⟨-, hf⟩
        ·
          exact eqt_t h_S (fq_X0_attacks_254  hf)
        ·
          exact eqt_t h_S (fq_X0_attacks_254  hf)
      ·
        exact eqt_t h_S (fq_X0_attacks_254  hf)
theorem fq_X0_attacks_222 {o : Int32 × ZS} {x0 : Nat} {x1 : Int32} {x3 : Int32} {x4 : Int32} {x8 : Int32} {S : ZS}  (hf : f_X0_attacks_222 x0 x1 x3 x4 x8 S = some o)   : EqT S o.2 := by
  have h_S : EqT S S := eqt_0
  unfold f_X0_attacks_222 at hf
  exact eqt_t h_S (fq_X0_attacks_223  hf)
theorem fq_X0_attacks_218 {o : Int32 × ZS} {x0 : Nat} {x1 : Int32} {x3 : Int32} {x4 : Int32} {x8 : Int32} {S : ZS}  (hf : f_X0_attacks_218 x0 x1 x3 x4 x8 S = some o)   : EqT S o.2 := by
  have h_S : EqT S S := eqt_0
  unfold f_X0_attacks_218 at hf
  exact eqt_t h_S (fq_X0_attacks_223  hf)
theorem fq_X0_attacks_191 {o : Int32 × ZS} {x0 : Nat} {x1 : Int32} {x3 : Int32} {x4 : Int32} {x8 : Int32} {S : ZS}  (hf : f_X0_attacks_191 x0 x1 x3 x4 x8 S = some o)   : EqT S o.2 := by
  have h_S : EqT S S := eqt_0
  unfold f_X0_attacks_191 at hf
  exact eqt_t h_S (fq_X0_attacks_223  hf)
theorem fq_X0_attacks_172 {o : Int32 × ZS} {x0 : Nat} {x1 : Int32} {x3 : Int32} {x4 : Int32} {x5 : Int32} {x6 : Int32} {x7 : Int32} {x8 : Int32} {t0 : Int32} {S : ZS}  (hf : f_X0_attacks_172 x0 x1 x3 x4 x5 x6 x7 x8 t0 S = some o)   : EqT S o.2 := by
  have h_S : EqT S S := eqt_0
  unfold f_X0_attacks_172 at hf
  rcases m_ifE hf with ⟨-, hf⟩ | ⟨-, hf⟩
  ·
    rcases m_ifE hf with ⟨-, hf⟩ | ⟨-, hf⟩
    ·
      rcases m_ifE hf with ⟨-, hf⟩ | ⟨-, hf⟩
      ·
        exact eqt_t h_S (fq_X0_attacks_218  hf)
      ·
        rcases m_ifE hf with ⟨-, hf⟩ | ⟨-, hf⟩
        ·
          exact eqt_t h_S (fq_X0_attacks_218  hf)
        ·
          exact eqt_t h_S (fq_X0_attacks_222  hf)
    ·
      exact eqt_t h_S (fq_X0_attacks_222  hf)
  ·
    rcases m_ifE hf with ⟨-, hf⟩ | ⟨-, hf⟩
    ·
      exact eqt_t h_S (fq_X0_attacks_191  hf)
    ·
      rcases m_ifE hf with ⟨-, hf⟩ | ⟨-, hf⟩
      ·
        exact eqt_t h_S (fq_X0_attacks_191  hf)
      ·
        exact eqt_t h_S (fq_X0_attacks_223  hf)
theorem fq_X0_attacks_167 {o : Int32 × ZS} {x0 : Nat} {x1 : Int32} {x3 : Int32} {x4 : Int32} {x5 : Int32} {x6 : Int32} {x7 : Int32} {x8 : Int32} {S : ZS}  (hf : f_X0_attacks_167 x0 x1 x3 x4 x5 x6 x7 x8 S = some o)   : EqT S o.2 := by
  have h_S : EqT S S := eqt_0
  unfold f_X0_attacks_167 at hf
  exact eqt_t h_S (fq_X0_attacks_172  hf)
theorem fq_X0_attacks_156 {o : Int32 × ZS} {t0 : Int32} {S : ZS}  (hf : f_X0_attacks_156 t0 S = some o)   : EqT S o.2 := by
  have h_S : EqT S S := eqt_0
  unfold f_X0_attacks_156 at hf
  obtain ⟨-, hf⟩ := m_chkE hf
  cases hf
  exact h_S
theorem fq_X0_attacks_136 {o : Int32 × ZS} {x0 : Nat} {x1 : Int32} {x3 : Int32} {x4 : Int32} {x5 : Int32} {x6 : Int32} {x7 : Int32} {t0 : Int32} {S : ZS}  (hf : f_X0_attacks_136 x0 x1 x3 x4 x5 x6 x7 t0 S = some o)   : EqT S o.2 := by
  have h_S : EqT S S := eqt_0
  unfold f_X0_attacks_136 at hf
  rcases m_ifE hf with ⟨-, hf⟩ | ⟨-, hf⟩
  ·
    rcases m_ifE hf with ⟨-, hf⟩ | ⟨-, hf⟩
    ·
      exact eqt_t h_S (fq_X0_attacks_156  hf)
    ·
      exact eqt_t h_S (fq_X0_attacks_156  hf)
  ·
    rcases m_ifE hf with ⟨-, hf⟩ | ⟨-, hf⟩
    ·
      exact eqt_t h_S (fq_X0_attacks_167  hf)
    ·
      rcases m_ifE hf with ⟨-, hf⟩ | ⟨-, hf⟩
      ·
        exact eqt_t h_S (fq_X0_attacks_167  hf)
      ·
        exact eqt_t h_S (fq_X0_attacks_172  hf)
theorem fq_X0_attacks_120 {o : Int32 × ZS} {x0 : Nat} {x1 : Int32} {x3 : Int32} {x4 : Int32} {x5 : Int32} {x6 : Int32} {t0 : Int32} {S : ZS}  (hf : f_X0_attacks_120 x0 x1 x3 x4 x5 x6 t0 S = some o)   : EqT S o.2 := by
  have h_S : EqT S S := eqt_0
  unfold f_X0_attacks_120 at hf
  rcases m_ifE hf with ⟨-, hf⟩ | ⟨-, hf⟩
  ·
    exact eqt_t h_S (fq_X0_attacks_136  hf)
  ·
    exact eqt_t h_S (fq_X0_attacks_136  hf)
theorem fq_X0_attacks_105 {o : Int32 × ZS} {x0 : Nat} {x1 : Int32} {x3 : Int32} {x4 : Int32} {x5 : Int32} {t0 : Int32} {S : ZS}  (hf : f_X0_attacks_105 x0 x1 x3 x4 x5 t0 S = some o)   : EqT S o.2 := by
  have h_S : EqT S S := eqt_0
  unfold f_X0_attacks_105 at hf
  rcases m_ifE hf with ⟨-, hf⟩ | ⟨-, hf⟩
  ·
    exact eqt_t h_S (fq_X0_attacks_120  hf)
  ·
    obtain ⟨v1, e1, hf⟩ := m_bndE hf
    exact eqt_t h_S (fq_X0_attacks_120  hf)
theorem fq_X0_attacks_94 {o : Int32 × ZS} {t0 : Int32} {S : ZS}  (hf : f_X0_attacks_94 t0 S = some o)   : EqT S o.2 := by
  have h_S : EqT S S := eqt_0
  unfold f_X0_attacks_94 at hf
  obtain ⟨-, hf⟩ := m_chkE hf
  cases hf
  exact h_S
theorem fq_X0_attacks_69 {o : Int32 × ZS} {t0 : Int32} {S : ZS}  (hf : f_X0_attacks_69 t0 S = some o)   : EqT S o.2 := by
  have h_S : EqT S S := eqt_0
  unfold f_X0_attacks_69 at hf
  obtain ⟨-, hf⟩ := m_chkE hf
  cases hf
  exact h_S
theorem fq_X0_attacks_68 {o : Int32 × ZS} {S : ZS}  (hf : f_X0_attacks_68 S = some o)   : EqT S o.2 := by
  have h_S : EqT S S := eqt_0
  unfold f_X0_attacks_68 at hf
  exact eqt_t h_S (fq_X0_attacks_69  hf)
theorem fq_X0_attacks_54 {o : Int32 × ZS} {x3 : Int32} {t0 : Int32} {t1 : Int32} {S : ZS}  (hf : f_X0_attacks_54 x3 t0 t1 S = some o)   : EqT S o.2 := by
  have h_S : EqT S S := eqt_0
  unfold f_X0_attacks_54 at hf
  rcases m_ifE hf with ⟨-, hf⟩ | ⟨-, hf⟩
  ·
    obtain ⟨v1, e1, hf⟩ := m_bndE hf
    rcases m_ifE hf with ⟨-, hf⟩ | ⟨-, hf⟩
    ·
      exact eqt_t h_S (fq_X0_attacks_69  hf)
    ·
      exact eqt_t h_S (fq_X0_attacks_68  hf)
  ·
    exact eqt_t h_S (fq_X0_attacks_68  hf)
theorem fq_X0_attacks_0 {o : Int32 × ZS} {x0 : Nat} {x1 : Int32} {x2 : Int32} {S : ZS}  (hf : f_X0_attacks_0 x0 x1 x2 S = some o)   : EqT S o.2 := by
  have h_S : EqT S S := eqt_0
  unfold f_X0_attacks_0 at hf
  obtain ⟨v1, e1, hf⟩ := m_bndE hf
  obtain ⟨v2, e2, hf⟩ := m_bndE hf
  obtain ⟨v3, e3, hf⟩ := m_bndE hf
  obtain ⟨v4, e4, hf⟩ := m_bndE hf
  obtain ⟨v5, e5, hf⟩ := m_bndE hf
  obtain ⟨v6, e6, hf⟩ := m_bndE hf
  obtain ⟨q7, hf⟩ := m_chkE hf
  obtain ⟨b7, -, hf⟩ := m_calE hf
  obtain ⟨q8, hf⟩ := m_chkE hf
  obtain ⟨-, hf⟩ := m_chkE hf
  obtain ⟨v8, e9, hf⟩ := m_bndE hf
  obtain ⟨v9, e10, hf⟩ := m_bndE hf
  rcases m_ifE hf with ⟨-, hf⟩ | ⟨-, hf⟩
  ·
    obtain ⟨q11, hf⟩ := m_chkE hf
    obtain ⟨b14, -, hf⟩ := m_calE hf
    obtain ⟨q12, hf⟩ := m_chkE hf
    obtain ⟨-, hf⟩ := m_chkE hf
    obtain ⟨v15, e13, hf⟩ := m_bndE hf
    rcases m_ifE hf with ⟨-, hf⟩ | ⟨-, hf⟩
    ·
      exact eqt_t h_S (fq_X0_attacks_54  hf)
    ·
      exact eqt_t h_S (fq_X0_attacks_54  hf)
  ·
    rcases m_ifE hf with ⟨-, hf⟩ | ⟨-, hf⟩
    ·
      obtain ⟨v11, e14, hf⟩ := m_bndE hf
      obtain ⟨v12, e15, hf⟩ := m_bndE hf
      obtain ⟨v13, e16, hf⟩ := m_bndE hf
      rcases m_ifE hf with ⟨-, hf⟩ | ⟨-, hf⟩
      ·
        exact eqt_t h_S (fq_X0_attacks_94  hf)
      ·
        exact eqt_t h_S (fq_X0_attacks_94  hf)
    ·
      rcases m_ifE hf with ⟨-, hf⟩ | ⟨-, hf⟩
      ·
        exact eqt_t h_S (fq_X0_attacks_105  hf)
      ·
        obtain ⟨v10, e17, hf⟩ := m_bndE hf
        exact eqt_t h_S (fq_X0_attacks_105  hf)
theorem fq_X0_attacks {o : Int32 × ZS} {x0 : Nat} {x1 : Int32} {x2 : Int32} {S : ZS}  (hf : f_X0_attacks x0 x1 x2 S = some o)   : EqT S o.2 := by
  have h_S : EqT S S := eqt_0
  unfold f_X0_attacks at hf
  exact eqt_t h_S (fq_X0_attacks_0  hf)
theorem fq_X0_attacked_40 {o : Int32 × ZS} {self2 : Nat → Int32 → Int32 → Int32 → ZS → Option (Int32 × ZS)} {x0 : Nat} {x1 : Int32} {x2 : Int32} {x3 : Int32} {S : ZS} (hself2 : ∀ (z0 : Nat) (z1 : Int32) (z2 : Int32) (z3 : Int32) (S : ZS) (o : Int32 × ZS), self2 z0 z1 z2 z3 S = some o → EqT S o.2) (hf : f_X0_attacked_40 self2 x0 x1 x2 x3 S = some o)   : EqT S o.2 := by
  have h_S : EqT S S := eqt_0
  unfold f_X0_attacked_40 at hf
  obtain ⟨v1, e1, hf⟩ := m_bndE hf
  exact eqt_t h_S (hself2 _ _ _ _ _ _ hf)
theorem fq_X0_attacked_2s {o : Int32 × ZS} {self2 : Nat → Int32 → Int32 → Int32 → ZS → Option (Int32 × ZS)} {x0 : Nat} {x1 : Int32} {x2 : Int32} {x3 : Int32} {S : ZS} (hself2 : ∀ (z0 : Nat) (z1 : Int32) (z2 : Int32) (z3 : Int32) (S : ZS) (o : Int32 × ZS), self2 z0 z1 z2 z3 S = some o → EqT S o.2) (hf : f_X0_attacked_2s self2 x0 x1 x2 x3 S = some o)   : EqT S o.2 := by
  have h_S : EqT S S := eqt_0
  unfold f_X0_attacked_2s at hf
  rcases m_ifE hf with ⟨-, hf⟩ | ⟨-, hf⟩
  ·
    obtain ⟨-, hf⟩ := m_chkE hf
    cases hf
    exact h_S
  ·
    obtain ⟨q1, hf⟩ := m_chkE hf
    obtain ⟨b1, -, hf⟩ := m_calE hf
    obtain ⟨q2, hf⟩ := m_chkE hf
    obtain ⟨-, hf⟩ := m_chkE hf
    obtain ⟨v2, e3, hf⟩ := m_bndE hf
    rcases m_ifE hf with ⟨-, hf⟩ | ⟨-, hf⟩
    ·
      exact eqt_t h_S (fq_X0_attacked_40 hself2 hf)
    ·
      obtain ⟨q4, hf⟩ := m_chkE hf
      obtain ⟨b3, -, hf⟩ := m_calE hf
      obtain ⟨q5, hf⟩ := m_chkE hf
      obtain ⟨-, hf⟩ := m_chkE hf
      obtain ⟨v4, e6, hf⟩ := m_bndE hf
      obtain ⟨v5, e7, hf⟩ := m_bndE hf
      rcases m_ifE hf with ⟨-, hf⟩ | ⟨-, hf⟩
      ·
        obtain ⟨q8, hf⟩ := m_chkE hf
        obtain ⟨o6, ho, hf⟩ := m_calE hf
        have h_o6 := eqt_t h_S (fq_X0_attacks ho)
        clear ho
        rcases m_ifE hf with ⟨-, hf⟩ | ⟨-, hf⟩
        ·
          exact eqt_t h_o6 (fq_X0_attacked_40 hself2 hf)
        ·
          obtain ⟨-, hf⟩ := m_chkE hf
          cases hf
          exact h_o6
      ·
        exact eqt_t h_S (fq_X0_attacked_40 hself2 hf)
theorem fq_X0_attacked_2   (n : Nat) : ∀ (y0 : Nat) (y1 : Int32) (y2 : Int32) (y3 : Int32) (S : ZS) (o : Int32 × ZS), f_X0_attacked_2  n y0 y1 y2 y3 S = some o → EqT S o.2 := by
  induction n with
  | zero => intro y0 y1 y2 y3 S o hf; cases hf
  | succ n ih => intro y0 y1 y2 y3 S o hf; exact fq_X0_attacked_2s  ih hf
theorem fq_X0_attacked_0 {o : Int32 × ZS} {x0 : Nat} {x1 : Int32} {x2 : Int32} {S : ZS}  (hf : f_X0_attacked_0 x0 x1 x2 S = some o)   : EqT S o.2 := by
  have h_S : EqT S S := eqt_0
  unfold f_X0_attacked_0 at hf
  exact eqt_t h_S (fq_X0_attacked_2  _ _ _ _ _ _ _ hf)
theorem fq_X0_attacked {o : Int32 × ZS} {x0 : Nat} {x1 : Int32} {x2 : Int32} {S : ZS}  (hf : f_X0_attacked x0 x1 x2 S = some o)   : EqT S o.2 := by
  have h_S : EqT S S := eqt_0
  unfold f_X0_attacked at hf
  exact eqt_t h_S (fq_X0_attacked_0  hf)
theorem fq_X0_pawnReaches_122 {o : Int32 × ZS} {t0 : Int32} {S : ZS}  (hf : f_X0_pawnReaches_122 t0 S = some o)   : EqT S o.2 := by
  have h_S : EqT S S := eqt_0
  unfold f_X0_pawnReaches_122 at hf
  obtain ⟨-, hf⟩ := m_chkE hf
  cases hf
  exact h_S
theorem fq_X0_pawnReaches_121 {o : Int32 × ZS} {S : ZS}  (hf : f_X0_pawnReaches_121 S = some o)   : EqT S o.2 := by
  have h_S : EqT S S := eqt_0
  unfold f_X0_pawnReaches_121 at hf
  exact eqt_t h_S (fq_X0_pawnReaches_122  hf)
theorem fq_X0_pawnReaches_117 {o : Int32 × ZS} {S : ZS}  (hf : f_X0_pawnReaches_117 S = some o)   : EqT S o.2 := by
  have h_S : EqT S S := eqt_0
  unfold f_X0_pawnReaches_117 at hf
  exact eqt_t h_S (fq_X0_pawnReaches_122  hf)
theorem fq_X0_pawnReaches_90 {o : Int32 × ZS} {t0 : Int32} {S : ZS}  (hf : f_X0_pawnReaches_90 t0 S = some o)   : EqT S o.2 := by
  have h_S : EqT S S := eqt_0
  unfold f_X0_pawnReaches_90 at hf
  obtain ⟨-, hf⟩ := m_chkE hf
  cases hf
  exact h_S
theorem fq_X0_pawnReaches_89 {o : Int32 × ZS} {S : ZS}  (hf : f_X0_pawnReaches_89 S = some o)   : EqT S o.2 := by
  have h_S : EqT S S := eqt_0
  unfold f_X0_pawnReaches_89 at hf
  exact eqt_t h_S (fq_X0_pawnReaches_90  hf)
theorem fq_X0_pawnReaches_62 {o : Int32 × ZS} {x0 : Nat} {x1 : Int32} {x2 : Int32} {x3 : Int32} {t0 : Int32} {t1 : Int32} {S : ZS}  (hf : f_X0_pawnReaches_62 x0 x1 x2 x3 t0 t1 S = some o)   : EqT S o.2 := by
  have h_S : EqT S S := eqt_0
  unfold f_X0_pawnReaches_62 at hf
  rcases m_ifE hf with ⟨-, hf⟩ | ⟨-, hf⟩
  ·
    obtain ⟨q1, hf⟩ := m_chkE hf
    obtain ⟨b1, -, hf⟩ := m_calE hf
    obtain ⟨v2, e2, hf⟩ := m_bndE hf
    obtain ⟨q3, hf⟩ := m_chkE hf
    obtain ⟨-, hf⟩ := m_chkE hf
    obtain ⟨v3, e4, hf⟩ := m_bndE hf
    rcases m_ifE hf with ⟨-, hf⟩ | ⟨-, hf⟩
    ·
      obtain ⟨q5, hf⟩ := m_chkE hf
      obtain ⟨b4, -, hf⟩ := m_calE hf
      obtain ⟨q6, hf⟩ := m_chkE hf
      obtain ⟨-, hf⟩ := m_chkE hf
      obtain ⟨v5, e7, hf⟩ := m_bndE hf
      rcases m_ifE hf with ⟨-, hf⟩ | ⟨-, hf⟩
      ·
        exact eqt_t h_S (fq_X0_pawnReaches_90  hf)
      ·
        exact eqt_t h_S (fq_X0_pawnReaches_89  hf)
    ·
      exact eqt_t h_S (fq_X0_pawnReaches_89  hf)
  ·
    exact eqt_t h_S (fq_X0_pawnReaches_89  hf)
theorem fq_X0_pawnReaches_36 {o : Int32 × ZS} {t0 : Int32} {S : ZS}  (hf : f_X0_pawnReaches_36 t0 S = some o)   : EqT S o.2 := by
  have h_S : EqT S S := eqt_0
  unfold f_X0_pawnReaches_36 at hf
  obtain ⟨-, hf⟩ := m_chkE hf
  cases hf
  exact h_S
theorem fq_X0_pawnReaches_14 {o : Int32 × ZS} {x0 : Nat} {x1 : Int32} {x2 : Int32} {t0 : Int32} {S : ZS}  (hf : f_X0_pawnReaches_14 x0 x1 x2 t0 S = some o)   : EqT S o.2 := by
  have h_S : EqT S S := eqt_0
  unfold f_X0_pawnReaches_14 at hf
  obtain ⟨v1, e1, hf⟩ := m_bndE hf
  rcases m_ifE hf with ⟨-, hf⟩ | ⟨-, hf⟩
  ·
    obtain ⟨q2, hf⟩ := m_chkE hf
    obtain ⟨b8, -, hf⟩ := m_calE hf
    obtain ⟨q3, hf⟩ := m_chkE hf
    obtain ⟨-, hf⟩ := m_chkE hf
    obtain ⟨v9, e4, hf⟩ := m_bndE hf
    rcases m_ifE hf with ⟨-, hf⟩ | ⟨-, hf⟩
    ·
      exact eqt_t h_S (fq_X0_pawnReaches_36  hf)
    ·
      exact eqt_t h_S (fq_X0_pawnReaches_36  hf)
  ·
    obtain ⟨v2, e5, hf⟩ := m_bndE hf
    obtain ⟨v3, e6, hf⟩ := m_bndE hf
    rcases m_ifE hf with ⟨-, hf⟩ | ⟨-, hf⟩
    ·
      obtain ⟨v7, e7, hf⟩ := m_bndE hf
      obtain ⟨q8, hf⟩ := m_chkE hf
      rcases m_ifE hf with ⟨-, hf⟩ | ⟨-, hf⟩
      ·
        exact eqt_t h_S (fq_X0_pawnReaches_62  hf)
      ·
        exact eqt_t h_S (fq_X0_pawnReaches_62  hf)
    ·
      obtain ⟨q9, hf⟩ := m_chkE hf
      obtain ⟨o4, ho, hf⟩ := m_calE hf
      have h_o4 := eqt_t h_S (fq_X0_attacks ho)
      clear ho
      rcases m_ifE hf with ⟨-, hf⟩ | ⟨-, hf⟩
      ·
        exact eqt_t h_o4 (fq_X0_pawnReaches_121  hf)
      ·
        obtain ⟨q10, hf⟩ := m_chkE hf
        obtain ⟨b5, -, hf⟩ := m_calE hf
        obtain ⟨q11, hf⟩ := m_chkE hf
        obtain ⟨-, hf⟩ := m_chkE hf
        obtain ⟨v6, e12, hf⟩ := m_bndE hf
        rcases m_ifE hf with ⟨-, hf⟩ | ⟨-, hf⟩
        ·
          obtain ⟨q13, hf⟩ := m_chkE hf
          rcases m_ifE hf with ⟨-, hf⟩ | ⟨-, hf⟩
          ·
            exact eqt_t h_o4 (fq_X0_pawnReaches_117  hf)
          ·
            exact eqt_t h_o4 (fq_X0_pawnReaches_121  hf)
        ·
          exact eqt_t h_o4 (fq_X0_pawnReaches_117  hf)
theorem fq_X0_pawnReaches_0 {o : Int32 × ZS} {x0 : Nat} {x1 : Int32} {x2 : Int32} {S : ZS}  (hf : f_X0_pawnReaches_0 x0 x1 x2 S = some o)   : EqT S o.2 := by
  have h_S : EqT S S := eqt_0
  unfold f_X0_pawnReaches_0 at hf
  obtain ⟨q1, hf⟩ := m_chkE hf
  rcases m_ifE hf with ⟨-, hf⟩ | ⟨-, hf⟩
  ·
    exact eqt_t h_S (fq_X0_pawnReaches_14  hf)
  ·
    exact eqt_t h_S (fq_X0_pawnReaches_14  hf)
theorem fq_X0_pawnReaches {o : Int32 × ZS} {x0 : Nat} {x1 : Int32} {x2 : Int32} {S : ZS}  (hf : f_X0_pawnReaches x0 x1 x2 S = some o)   : EqT S o.2 := by
  have h_S : EqT S S := eqt_0
  unfold f_X0_pawnReaches at hf
  exact eqt_t h_S (fq_X0_pawnReaches_0  hf)
theorem fq_X0_castles_42 {o : Int32 × ZS} {t0 : Int32} {S : ZS}  (hf : f_X0_castles_42 t0 S = some o)   : EqT S o.2 := by
  have h_S : EqT S S := eqt_0
  unfold f_X0_castles_42 at hf
  obtain ⟨-, hf⟩ := m_chkE hf
  cases hf
  exact h_S
theorem fq_X0_castles_41 {o : Int32 × ZS} {S : ZS}  (hf : f_X0_castles_41 S = some o)   : EqT S o.2 := by
  have h_S : EqT S S := eqt_0
  unfold f_X0_castles_41 at hf
  exact eqt_t h_S (fq_X0_castles_42  hf)
theorem fq_X0_castles_37 {o : Int32 × ZS} {S : ZS}  (hf : f_X0_castles_37 S = some o)   : EqT S o.2 := by
  have h_S : EqT S S := eqt_0
  unfold f_X0_castles_37 at hf
  exact eqt_t h_S (fq_X0_castles_42  hf)
theorem fq_X0_castles_0 {o : Int32 × ZS} {x0 : Nat} {x1 : Int32} {x2 : Int32} {S : ZS}  (hf : f_X0_castles_0 x0 x1 x2 S = some o)   : EqT S o.2 := by
  have h_S : EqT S S := eqt_0
  unfold f_X0_castles_0 at hf
  obtain ⟨q1, hf⟩ := m_chkE hf
  obtain ⟨b1, -, hf⟩ := m_calE hf
  obtain ⟨q2, hf⟩ := m_chkE hf
  obtain ⟨-, hf⟩ := m_chkE hf
  obtain ⟨v2, e3, hf⟩ := m_bndE hf
  obtain ⟨v3, e4, hf⟩ := m_bndE hf
  rcases m_ifE hf with ⟨-, hf⟩ | ⟨-, hf⟩
  ·
    obtain ⟨v4, e5, hf⟩ := m_bndE hf
    obtain ⟨v5, e6, hf⟩ := m_bndE hf
    rcases m_ifE hf with ⟨-, hf⟩ | ⟨-, hf⟩
    ·
      obtain ⟨v6, e7, hf⟩ := m_bndE hf
      rcases m_ifE hf with ⟨-, hf⟩ | ⟨-, hf⟩
      ·
        exact eqt_t h_S (fq_X0_castles_37  hf)
      ·
        obtain ⟨v7, e8, hf⟩ := m_bndE hf
        rcases m_ifE hf with ⟨-, hf⟩ | ⟨-, hf⟩
        ·
          exact eqt_t h_S (fq_X0_castles_37  hf)
        ·
          exact eqt_t h_S (fq_X0_castles_41  hf)
    ·
      exact eqt_t h_S (fq_X0_castles_41  hf)
  ·
    exact eqt_t h_S (fq_X0_castles_41  hf)
theorem fq_X0_castles {o : Int32 × ZS} {x0 : Nat} {x1 : Int32} {x2 : Int32} {S : ZS}  (hf : f_X0_castles x0 x1 x2 S = some o)   : EqT S o.2 := by
  have h_S : EqT S S := eqt_0
  unfold f_X0_castles at hf
  exact eqt_t h_S (fq_X0_castles_0  hf)
theorem fq_X0_castlingIsOpen_50 {o : Int32 × ZS} {S : ZS}  (hf : f_X0_castlingIsOpen_50 S = some o)   : EqT S o.2 := by
  have h_S : EqT S S := eqt_0
  unfold f_X0_castlingIsOpen_50 at hf
  obtain ⟨-, hf⟩ := m_chkE hf
  cases hf
  exact h_S
theorem fq_X0_castlingIsOpen_123 {o : Int32 × ZS} {t0 : Int32} {S : ZS}  (hf : f_X0_castlingIsOpen_123 t0 S = some o)   : EqT S o.2 := by
  have h_S : EqT S S := eqt_0
  unfold f_X0_castlingIsOpen_123 at hf
  obtain ⟨-, hf⟩ := m_chkE hf
  cases hf
  exact h_S
theorem fq_X0_castlingIsOpen_122 {o : Int32 × ZS} {S : ZS}  (hf : f_X0_castlingIsOpen_122 S = some o)   : EqT S o.2 := by
  have h_S : EqT S S := eqt_0
  unfold f_X0_castlingIsOpen_122 at hf
  exact eqt_t h_S (fq_X0_castlingIsOpen_123  hf)
theorem fq_X0_castlingIsOpen_84 {o : Int32 × ZS} {t0 : Int32} {S : ZS}  (hf : f_X0_castlingIsOpen_84 t0 S = some o)   : EqT S o.2 := by
  have h_S : EqT S S := eqt_0
  unfold f_X0_castlingIsOpen_84 at hf
  obtain ⟨-, hf⟩ := m_chkE hf
  cases hf
  exact h_S
theorem fq_X0_castlingIsOpen_83 {o : Int32 × ZS} {S : ZS}  (hf : f_X0_castlingIsOpen_83 S = some o)   : EqT S o.2 := by
  have h_S : EqT S S := eqt_0
  unfold f_X0_castlingIsOpen_83 at hf
  exact eqt_t h_S (fq_X0_castlingIsOpen_84  hf)
theorem fq_X0_castlingIsOpen_38 {o : Int32 × ZS} {x0 : Nat} {x1 : Int32} {x2 : Int32} {x3 : Int32} {t0 : Int32} {t1 : Int32} {S : ZS}  (hf : f_X0_castlingIsOpen_38 x0 x1 x2 x3 t0 t1 S = some o)   : EqT S o.2 := by
  have h_S : EqT S S := eqt_0
  unfold f_X0_castlingIsOpen_38 at hf
  rcases m_ifE hf with ⟨-, hf⟩ | ⟨-, hf⟩
  ·
    obtain ⟨q1, hf⟩ := m_chkE hf
    obtain ⟨v1, e2, hf⟩ := m_bndE hf
    rcases m_ifE hf with ⟨-, hf⟩ | ⟨-, hf⟩
    ·
      exact eqt_t h_S (fq_X0_castlingIsOpen_50  hf)
    ·
      rcases m_ifE hf with ⟨-, hf⟩ | ⟨-, hf⟩
      ·
        obtain ⟨q3, hf⟩ := m_chkE hf
        obtain ⟨b2, -, hf⟩ := m_calE hf
        obtain ⟨v3, e4, hf⟩ := m_bndE hf
        obtain ⟨q5, hf⟩ := m_chkE hf
        obtain ⟨-, hf⟩ := m_chkE hf
        obtain ⟨v4, e6, hf⟩ := m_bndE hf
        rcases m_ifE hf with ⟨-, hf⟩ | ⟨-, hf⟩
        ·
          obtain ⟨q7, hf⟩ := m_chkE hf
          obtain ⟨b5, -, hf⟩ := m_calE hf
          obtain ⟨v6, e8, hf⟩ := m_bndE hf
          obtain ⟨q9, hf⟩ := m_chkE hf
          obtain ⟨-, hf⟩ := m_chkE hf
          obtain ⟨v7, e10, hf⟩ := m_bndE hf
          rcases m_ifE hf with ⟨-, hf⟩ | ⟨-, hf⟩
          ·
            obtain ⟨q11, hf⟩ := m_chkE hf
            obtain ⟨b8, -, hf⟩ := m_calE hf
            obtain ⟨v9, e12, hf⟩ := m_bndE hf
            obtain ⟨q13, hf⟩ := m_chkE hf
            obtain ⟨-, hf⟩ := m_chkE hf
            obtain ⟨v10, e14, hf⟩ := m_bndE hf
            rcases m_ifE hf with ⟨-, hf⟩ | ⟨-, hf⟩
            ·
              exact eqt_t h_S (fq_X0_castlingIsOpen_123  hf)
            ·
              exact eqt_t h_S (fq_X0_castlingIsOpen_122  hf)
          ·
            exact eqt_t h_S (fq_X0_castlingIsOpen_122  hf)
        ·
          exact eqt_t h_S (fq_X0_castlingIsOpen_122  hf)
      ·
        obtain ⟨q15, hf⟩ := m_chkE hf
        obtain ⟨b11, -, hf⟩ := m_calE hf
        obtain ⟨v12, e16, hf⟩ := m_bndE hf
        obtain ⟨q17, hf⟩ := m_chkE hf
        obtain ⟨-, hf⟩ := m_chkE hf
        obtain ⟨v13, e18, hf⟩ := m_bndE hf
        rcases m_ifE hf with ⟨-, hf⟩ | ⟨-, hf⟩
        ·
          obtain ⟨q19, hf⟩ := m_chkE hf
          obtain ⟨b14, -, hf⟩ := m_calE hf
          obtain ⟨v15, e20, hf⟩ := m_bndE hf
          obtain ⟨q21, hf⟩ := m_chkE hf
          obtain ⟨-, hf⟩ := m_chkE hf
          obtain ⟨v16, e22, hf⟩ := m_bndE hf
          rcases m_ifE hf with ⟨-, hf⟩ | ⟨-, hf⟩
          ·
            exact eqt_t h_S (fq_X0_castlingIsOpen_84  hf)
          ·
            exact eqt_t h_S (fq_X0_castlingIsOpen_83  hf)
        ·
          exact eqt_t h_S (fq_X0_castlingIsOpen_83  hf)
  ·
    exact eqt_t h_S (fq_X0_castlingIsOpen_50  hf)
theorem fq_X0_castlingIsOpen_22 {o : Int32 × ZS} {x0 : Nat} {x1 : Int32} {x2 : Int32} {t0 : Int32} {t1 : Int32} {S : ZS}  (hf : f_X0_castlingIsOpen_22 x0 x1 x2 t0 t1 S = some o)   : EqT S o.2 := by
  have h_S : EqT S S := eqt_0
  unfold f_X0_castlingIsOpen_22 at hf
  obtain ⟨v1, e1, hf⟩ := m_bndE hf
  obtain ⟨q2, hf⟩ := m_chkE hf
  rcases m_ifE hf with ⟨-, hf⟩ | ⟨-, hf⟩
  ·
    exact eqt_t h_S (fq_X0_castlingIsOpen_38  hf)
  ·
    exact eqt_t h_S (fq_X0_castlingIsOpen_38  hf)
theorem fq_X0_castlingIsOpen_10 {o : Int32 × ZS} {x0 : Nat} {x1 : Int32} {x2 : Int32} {t0 : Int32} {S : ZS}  (hf : f_X0_castlingIsOpen_10 x0 x1 x2 t0 S = some o)   : EqT S o.2 := by
  have h_S : EqT S S := eqt_0
  unfold f_X0_castlingIsOpen_10 at hf
  obtain ⟨q1, hf⟩ := m_chkE hf
  rcases m_ifE hf with ⟨-, hf⟩ | ⟨-, hf⟩
  ·
    exact eqt_t h_S (fq_X0_castlingIsOpen_22  hf)
  ·
    exact eqt_t h_S (fq_X0_castlingIsOpen_22  hf)
theorem fq_X0_castlingIsOpen_0 {o : Int32 × ZS} {x0 : Nat} {x1 : Int32} {x2 : Int32} {S : ZS}  (hf : f_X0_castlingIsOpen_0 x0 x1 x2 S = some o)   : EqT S o.2 := by
  have h_S : EqT S S := eqt_0
  unfold f_X0_castlingIsOpen_0 at hf
  rcases m_ifE hf with ⟨-, hf⟩ | ⟨-, hf⟩
  ·
    exact eqt_t h_S (fq_X0_castlingIsOpen_10  hf)
  ·
    exact eqt_t h_S (fq_X0_castlingIsOpen_10  hf)
theorem fq_X0_castlingIsOpen {o : Int32 × ZS} {x0 : Nat} {x1 : Int32} {x2 : Int32} {S : ZS}  (hf : f_X0_castlingIsOpen x0 x1 x2 S = some o)   : EqT S o.2 := by
  have h_S : EqT S S := eqt_0
  unfold f_X0_castlingIsOpen at hf
  exact eqt_t h_S (fq_X0_castlingIsOpen_0  hf)
theorem fq_X0_reaches_45 {o : Int32 × ZS} {S : ZS}  (hf : f_X0_reaches_45 S = some o)   : EqT S o.2 := by
  have h_S : EqT S S := eqt_0
  unfold f_X0_reaches_45 at hf
  obtain ⟨-, hf⟩ := m_chkE hf
  cases hf
  exact h_S
theorem fq_X0_reaches_95 {o : Int32 × ZS} {t0 : Int32} {S : ZS}  (hf : f_X0_reaches_95 t0 S = some o)   : EqT S o.2 := by
  have h_S : EqT S S := eqt_0
  unfold f_X0_reaches_95 at hf
  obtain ⟨-, hf⟩ := m_chkE hf
  cases hf
  exact h_S
theorem fq_X0_reaches_90 {o : Int32 × ZS} {S : ZS}  (hf : f_X0_reaches_90 S = some o)   : EqT S o.2 := by
  have h_S : EqT S S := eqt_0
  unfold f_X0_reaches_90 at hf
  exact eqt_t h_S (fq_X0_reaches_95  hf)
theorem fq_X0_reaches_94 {o : Int32 × ZS} {S : ZS}  (hf : f_X0_reaches_94 S = some o)   : EqT S o.2 := by
  have h_S : EqT S S := eqt_0
  unfold f_X0_reaches_94 at hf
  exact eqt_t h_S (fq_X0_reaches_95  hf)
theorem fq_X0_reaches_47 {o : Int32 × ZS} {x0 : Nat} {x1 : Int32} {x2 : Int32} {S : ZS}  (hf : f_X0_reaches_47 x0 x1 x2 S = some o)   : EqT S o.2 := by
  have h_S : EqT S S := eqt_0
  unfold f_X0_reaches_47 at hf
  obtain ⟨q1, hf⟩ := m_chkE hf
  obtain ⟨o1, ho, hf⟩ := m_calE hf
  have h_o1 := eqt_t h_S (fq_X0_kindAt ho)
  clear ho
  rcases m_ifE hf with ⟨-, hf⟩ | ⟨-, hf⟩
  ·
    obtain ⟨q2, hf⟩ := m_chkE hf
    obtain ⟨o5, ho, hf⟩ := m_calE hf
    have h_o5 := eqt_t h_o1 (fq_X0_pawnReaches ho)
    clear ho
    obtain ⟨-, hf⟩ := m_chkE hf
    cases hf
    exact h_o5
  ·
    obtain ⟨q3, hf⟩ := m_chkE hf
    obtain ⟨o2, ho, hf⟩ := m_calE hf
    have h_o2 := eqt_t h_o1 (fq_X0_attacks ho)
    clear ho
    rcases m_ifE hf with ⟨-, hf⟩ | ⟨-, hf⟩
    ·
      obtain ⟨q4, hf⟩ := m_chkE hf
      obtain ⟨o3, ho, hf⟩ := m_calE hf
      have h_o3 := eqt_t h_o2 (fq_X0_castles ho)
      clear ho
      rcases m_ifE hf with ⟨-, hf⟩ | ⟨-, hf⟩
      ·
        exact eqt_t h_o3 (fq_X0_reaches_94  hf)
      ·
        obtain ⟨q5, hf⟩ := m_chkE hf
        obtain ⟨o4, ho, hf⟩ := m_calE hf
        have h_o4 := eqt_t h_o3 (fq_X0_castlingIsOpen ho)
        clear ho
        rcases m_ifE hf with ⟨-, hf⟩ | ⟨-, hf⟩
        ·
          exact eqt_t h_o4 (fq_X0_reaches_94  hf)
        ·
          exact eqt_t h_o4 (fq_X0_reaches_90  hf)
    ·
      exact eqt_t h_o2 (fq_X0_reaches_90  hf)
theorem fq_X0_reaches_0 {o : Int32 × ZS} {x0 : Nat} {x1 : Int32} {x2 : Int32} {S : ZS}  (hf : f_X0_reaches_0 x0 x1 x2 S = some o)   : EqT S o.2 := by
  have h_S : EqT S S := eqt_0
  unfold f_X0_reaches_0 at hf
  obtain ⟨q1, hf⟩ := m_chkE hf
  obtain ⟨b1, -, hf⟩ := m_calE hf
  obtain ⟨q2, hf⟩ := m_chkE hf
  obtain ⟨-, hf⟩ := m_chkE hf
  obtain ⟨v2, e3, hf⟩ := m_bndE hf
  rcases m_ifE hf with ⟨-, hf⟩ | ⟨-, hf⟩
  ·
    exact eqt_t h_S (fq_X0_reaches_45  hf)
  ·
    obtain ⟨v3, e4, hf⟩ := m_bndE hf
    obtain ⟨q5, hf⟩ := m_chkE hf
    rcases m_ifE hf with ⟨-, hf⟩ | ⟨-, hf⟩
    ·
      obtain ⟨q6, hf⟩ := m_chkE hf
      obtain ⟨b4, -, hf⟩ := m_calE hf
      obtain ⟨q7, hf⟩ := m_chkE hf
      obtain ⟨-, hf⟩ := m_chkE hf
      obtain ⟨v5, e8, hf⟩ := m_bndE hf
      rcases m_ifE hf with ⟨-, hf⟩ | ⟨-, hf⟩
      ·
        exact eqt_t h_S (fq_X0_reaches_47  hf)
      ·
        obtain ⟨q9, hf⟩ := m_chkE hf
        obtain ⟨b6, -, hf⟩ := m_calE hf
        obtain ⟨q10, hf⟩ := m_chkE hf
        obtain ⟨-, hf⟩ := m_chkE hf
        obtain ⟨v7, e11, hf⟩ := m_bndE hf
        obtain ⟨v8, e12, hf⟩ := m_bndE hf
        obtain ⟨q13, hf⟩ := m_chkE hf
        rcases m_ifE hf with ⟨-, hf⟩ | ⟨-, hf⟩
        ·
          exact eqt_t h_S (fq_X0_reaches_45  hf)
        ·
          exact eqt_t h_S (fq_X0_reaches_47  hf)
    ·
      exact eqt_t h_S (fq_X0_reaches_45  hf)
theorem fq_X0_reaches {o : Int32 × ZS} {x0 : Nat} {x1 : Int32} {x2 : Int32} {S : ZS}  (hf : f_X0_reaches x0 x1 x2 S = some o)   : EqT S o.2 := by
  have h_S : EqT S S := eqt_0
  unfold f_X0_reaches at hf
  exact eqt_t h_S (fq_X0_reaches_0  hf)
theorem fq_X0_takes_34 {o : Int32 × ZS} {t0 : Int32} {S : ZS}  (hf : f_X0_takes_34 t0 S = some o)   : EqT S o.2 := by
  have h_S : EqT S S := eqt_0
  unfold f_X0_takes_34 at hf
  obtain ⟨-, hf⟩ := m_chkE hf
  cases hf
  exact h_S
theorem fq_X0_takes_29 {o : Int32 × ZS} {S : ZS}  (hf : f_X0_takes_29 S = some o)   : EqT S o.2 := by
  have h_S : EqT S S := eqt_0
  unfold f_X0_takes_29 at hf
  exact eqt_t h_S (fq_X0_takes_34  hf)
theorem fq_X0_takes_33 {o : Int32 × ZS} {S : ZS}  (hf : f_X0_takes_33 S = some o)   : EqT S o.2 := by
  have h_S : EqT S S := eqt_0
  unfold f_X0_takes_33 at hf
  exact eqt_t h_S (fq_X0_takes_34  hf)
theorem fq_X0_takes_0 {o : Int32 × ZS} {x0 : Nat} {x1 : Int32} {x2 : Int32} {S : ZS}  (hf : f_X0_takes_0 x0 x1 x2 S = some o)   : EqT S o.2 := by
  have h_S : EqT S S := eqt_0
  unfold f_X0_takes_0 at hf
  obtain ⟨q1, hf⟩ := m_chkE hf
  obtain ⟨b1, -, hf⟩ := m_calE hf
  obtain ⟨q2, hf⟩ := m_chkE hf
  obtain ⟨-, hf⟩ := m_chkE hf
  obtain ⟨v2, e3, hf⟩ := m_bndE hf
  rcases m_ifE hf with ⟨-, hf⟩ | ⟨-, hf⟩
  ·
    obtain ⟨q4, hf⟩ := m_chkE hf
    obtain ⟨o3, ho, hf⟩ := m_calE hf
    have h_o3 := eqt_t h_S (fq_X0_kindAt ho)
    clear ho
    rcases m_ifE hf with ⟨-, hf⟩ | ⟨-, hf⟩
    ·
      obtain ⟨v4, e5, hf⟩ := m_bndE hf
      obtain ⟨v5, e6, hf⟩ := m_bndE hf
      rcases m_ifE hf with ⟨-, hf⟩ | ⟨-, hf⟩
      ·
        exact eqt_t h_o3 (fq_X0_takes_33  hf)
      ·
        exact eqt_t h_o3 (fq_X0_takes_29  hf)
    ·
      exact eqt_t h_o3 (fq_X0_takes_33  hf)
  ·
    exact eqt_t h_S (fq_X0_takes_29  hf)
theorem fq_X0_takes {o : Int32 × ZS} {x0 : Nat} {x1 : Int32} {x2 : Int32} {S : ZS}  (hf : f_X0_takes x0 x1 x2 S = some o)   : EqT S o.2 := by
  have h_S : EqT S S := eqt_0
  unfold f_X0_takes at hf
  exact eqt_t h_S (fq_X0_takes_0  hf)
theorem fq_X0_becomesAnother_26 {o : Int32 × ZS} {t0 : Int32} {S : ZS}  (hf : f_X0_becomesAnother_26 t0 S = some o)   : EqT S o.2 := by
  have h_S : EqT S S := eqt_0
  unfold f_X0_becomesAnother_26 at hf
  obtain ⟨-, hf⟩ := m_chkE hf
  cases hf
  exact h_S
theorem fq_X0_becomesAnother_25 {o : Int32 × ZS} {S : ZS}  (hf : f_X0_becomesAnother_25 S = some o)   : EqT S o.2 := by
  have h_S : EqT S S := eqt_0
  unfold f_X0_becomesAnother_25 at hf
  exact eqt_t h_S (fq_X0_becomesAnother_26  hf)
theorem fq_X0_becomesAnother_21 {o : Int32 × ZS} {S : ZS}  (hf : f_X0_becomesAnother_21 S = some o)   : EqT S o.2 := by
  have h_S : EqT S S := eqt_0
  unfold f_X0_becomesAnother_21 at hf
  exact eqt_t h_S (fq_X0_becomesAnother_26  hf)
theorem fq_X0_becomesAnother_0 {o : Int32 × ZS} {x0 : Nat} {x1 : Int32} {x2 : Int32} {S : ZS}  (hf : f_X0_becomesAnother_0 x0 x1 x2 S = some o)   : EqT S o.2 := by
  have h_S : EqT S S := eqt_0
  unfold f_X0_becomesAnother_0 at hf
  obtain ⟨q1, hf⟩ := m_chkE hf
  obtain ⟨o1, ho, hf⟩ := m_calE hf
  have h_o1 := eqt_t h_S (fq_X0_kindAt ho)
  clear ho
  rcases m_ifE hf with ⟨-, hf⟩ | ⟨-, hf⟩
  ·
    rcases m_ifE hf with ⟨-, hf⟩ | ⟨-, hf⟩
    ·
      exact eqt_t h_o1 (fq_X0_becomesAnother_21  hf)
    ·
      rcases m_ifE hf with ⟨-, hf⟩ | ⟨-, hf⟩
      ·
        exact eqt_t h_o1 (fq_X0_becomesAnother_25  hf)
      ·
        exact eqt_t h_o1 (fq_X0_becomesAnother_21  hf)
  ·
    exact eqt_t h_o1 (fq_X0_becomesAnother_25  hf)
theorem fq_X0_becomesAnother {o : Int32 × ZS} {x0 : Nat} {x1 : Int32} {x2 : Int32} {S : ZS}  (hf : f_X0_becomesAnother x0 x1 x2 S = some o)   : EqT S o.2 := by
  have h_S : EqT S S := eqt_0
  unfold f_X0_becomesAnother at hf
  exact eqt_t h_S (fq_X0_becomesAnother_0  hf)
theorem fq_X0_pawnAttacks_34 {o : Int32 × ZS} {S : ZS}  (hf : f_X0_pawnAttacks_34 S = some o)   : EqT S o.2 := by
  have h_S : EqT S S := eqt_0
  unfold f_X0_pawnAttacks_34 at hf
  obtain ⟨-, hf⟩ := m_chkE hf
  cases hf
  exact h_S
theorem fq_X0_pawnAttacks_85 {o : Int32 × ZS} {t0 : Int32} {S : ZS}  (hf : f_X0_pawnAttacks_85 t0 S = some o)   : EqT S o.2 := by
  have h_S : EqT S S := eqt_0
  unfold f_X0_pawnAttacks_85 at hf
  obtain ⟨-, hf⟩ := m_chkE hf
  cases hf
  exact h_S
theorem fq_X0_pawnAttacks_84 {o : Int32 × ZS} {S : ZS}  (hf : f_X0_pawnAttacks_84 S = some o)   : EqT S o.2 := by
  have h_S : EqT S S := eqt_0
  unfold f_X0_pawnAttacks_84 at hf
  exact eqt_t h_S (fq_X0_pawnAttacks_85  hf)
theorem fq_X0_pawnAttacks_80 {o : Int32 × ZS} {S : ZS}  (hf : f_X0_pawnAttacks_80 S = some o)   : EqT S o.2 := by
  have h_S : EqT S S := eqt_0
  unfold f_X0_pawnAttacks_80 at hf
  exact eqt_t h_S (fq_X0_pawnAttacks_85  hf)
theorem fq_X0_pawnAttacks_57 {o : Int32 × ZS} {x0 : Nat} {x3 : Int32} {x4 : Int32} {S : ZS}  (hf : f_X0_pawnAttacks_57 x0 x3 x4 S = some o)   : EqT S o.2 := by
  have h_S : EqT S S := eqt_0
  unfold f_X0_pawnAttacks_57 at hf
  obtain ⟨v1, e1, hf⟩ := m_bndE hf
  rcases m_ifE hf with ⟨-, hf⟩ | ⟨-, hf⟩
  ·
    exact eqt_t h_S (fq_X0_pawnAttacks_84  hf)
  ·
    obtain ⟨q2, hf⟩ := m_chkE hf
    obtain ⟨b2, -, hf⟩ := m_calE hf
    obtain ⟨v3, e3, hf⟩ := m_bndE hf
    obtain ⟨q4, hf⟩ := m_chkE hf
    obtain ⟨-, hf⟩ := m_chkE hf
    obtain ⟨v4, e5, hf⟩ := m_bndE hf
    rcases m_ifE hf with ⟨-, hf⟩ | ⟨-, hf⟩
    ·
      exact eqt_t h_S (fq_X0_pawnAttacks_80  hf)
    ·
      exact eqt_t h_S (fq_X0_pawnAttacks_84  hf)
theorem fq_X0_pawnAttacks_19 {o : Int32 × ZS} {x0 : Nat} {x3 : Int32} {t0 : Int32} {t1 : Int32} {S : ZS}  (hf : f_X0_pawnAttacks_19 x0 x3 t0 t1 S = some o)   : EqT S o.2 := by
  have h_S : EqT S S := eqt_0
  unfold f_X0_pawnAttacks_19 at hf
  obtain ⟨v1, e1, hf⟩ := m_bndE hf
  rcases m_ifE hf with ⟨-, hf⟩ | ⟨-, hf⟩
  ·
    exact eqt_t h_S (fq_X0_pawnAttacks_34  hf)
  ·
    rcases m_ifE hf with ⟨-, hf⟩ | ⟨-, hf⟩
    ·
      obtain ⟨v2, e2, hf⟩ := m_bndE hf
      rcases m_ifE hf with ⟨-, hf⟩ | ⟨-, hf⟩
      ·
        exact eqt_t h_S (fq_X0_pawnAttacks_57  hf)
      ·
        obtain ⟨q3, hf⟩ := m_chkE hf
        obtain ⟨b3, -, hf⟩ := m_calE hf
        obtain ⟨v4, e4, hf⟩ := m_bndE hf
        obtain ⟨q5, hf⟩ := m_chkE hf
        obtain ⟨-, hf⟩ := m_chkE hf
        obtain ⟨v5, e6, hf⟩ := m_bndE hf
        rcases m_ifE hf with ⟨-, hf⟩ | ⟨-, hf⟩
        ·
          exact eqt_t h_S (fq_X0_pawnAttacks_80  hf)
        ·
          exact eqt_t h_S (fq_X0_pawnAttacks_57  hf)
    ·
      exact eqt_t h_S (fq_X0_pawnAttacks_34  hf)
theorem fq_X0_pawnAttacks_0 {o : Int32 × ZS} {x0 : Nat} {x1 : Int32} {x2 : Int32} {S : ZS}  (hf : f_X0_pawnAttacks_0 x0 x1 x2 S = some o)   : EqT S o.2 := by
  have h_S : EqT S S := eqt_0
  unfold f_X0_pawnAttacks_0 at hf
  obtain ⟨v1, e1, hf⟩ := m_bndE hf
  obtain ⟨v2, e2, hf⟩ := m_bndE hf
  rcases m_ifE hf with ⟨-, hf⟩ | ⟨-, hf⟩
  ·
    exact eqt_t h_S (fq_X0_pawnAttacks_19  hf)
  ·
    exact eqt_t h_S (fq_X0_pawnAttacks_19  hf)
theorem fq_X0_pawnAttacks {o : Int32 × ZS} {x0 : Nat} {x1 : Int32} {x2 : Int32} {S : ZS}  (hf : f_X0_pawnAttacks x0 x1 x2 S = some o)   : EqT S o.2 := by
  have h_S : EqT S S := eqt_0
  unfold f_X0_pawnAttacks at hf
  exact eqt_t h_S (fq_X0_pawnAttacks_0  hf)
theorem fq_X0_rightsOf_0 {o : Int32 × ZS} {x0 : Int32} {S : ZS}  (hf : f_X0_rightsOf_0 x0 S = some o)   : EqT S o.2 := by
  have h_S : EqT S S := eqt_0
  unfold f_X0_rightsOf_0 at hf
  rcases m_ifE hf with ⟨-, hf⟩ | ⟨-, hf⟩
  ·
    cases hf
    exact h_S
  ·
    rcases m_ifE hf with ⟨-, hf⟩ | ⟨-, hf⟩
    ·
      cases hf
      exact h_S
    ·
      rcases m_ifE hf with ⟨-, hf⟩ | ⟨-, hf⟩
      ·
        cases hf
        exact h_S
      ·
        rcases m_ifE hf with ⟨-, hf⟩ | ⟨-, hf⟩
        ·
          cases hf
          exact h_S
        ·
          rcases m_ifE hf with ⟨-, hf⟩ | ⟨-, hf⟩
          ·
            cases hf
            exact h_S
          ·
            rcases m_ifE hf with ⟨-, hf⟩ | ⟨-, hf⟩
            ·
              cases hf
              exact h_S
            ·
              cases hf
              exact h_S
theorem fq_X0_rightsOf {o : Int32 × ZS} {x0 : Int32} {S : ZS}  (hf : f_X0_rightsOf x0 S = some o)   : EqT S o.2 := by
  have h_S : EqT S S := eqt_0
  unfold f_X0_rightsOf at hf
  exact eqt_t h_S (fq_X0_rightsOf_0  hf)
theorem fq_X0_play_227 {o : Int32 × ZS} {x0 : Nat} {S : ZS}  (hf : f_X0_play_227 x0 S = some o)   : EqT S o.2 := by
  have h_S : EqT S S := eqt_0
  unfold f_X0_play_227 at hf
  obtain ⟨q1, hf⟩ := m_chkE hf
  obtain ⟨q2, hf⟩ := m_chkE hf
  obtain ⟨v1, e3, hf⟩ := m_bndE hf
  obtain ⟨q4, hf⟩ := m_chkE hf
  obtain ⟨S2, e5, hf⟩ := m_bndE hf
  have h_S2 := eqt_I h_S e5
  obtain ⟨q6, hf⟩ := m_chkE hf
  obtain ⟨v3, e7, hf⟩ := m_bndE hf
  obtain ⟨q8, hf⟩ := m_chkE hf
  obtain ⟨S4, e9, hf⟩ := m_bndE hf
  have h_S4 := eqt_I h_S2 e9
  cases hf
  exact h_S4
theorem fq_X0_play_200 {o : Int32 × ZS} {x0 : Nat} {x2 : Int32} {x3 : Int32} {S : ZS}  (hf : f_X0_play_200 x0 x2 x3 S = some o)   : EqT S o.2 := by
  have h_S : EqT S S := eqt_0
  unfold f_X0_play_200 at hf
  obtain ⟨v1, e1, hf⟩ := m_bndE hf
  obtain ⟨v2, e2, hf⟩ := m_bndE hf
  obtain ⟨q3, hf⟩ := m_chkE hf
  obtain ⟨v3, e4, hf⟩ := m_bndE hf
  obtain ⟨q5, hf⟩ := m_chkE hf
  obtain ⟨o4, ho, hf⟩ := m_calE hf
  have h_o4 := eqt_t h_S (fq_X0_pawnAttacks ho)
  clear ho
  rcases m_ifE hf with ⟨-, hf⟩ | ⟨-, hf⟩
  ·
    exact eqt_t h_o4 (fq_X0_play_227  hf)
  ·
    obtain ⟨v5, e6, hf⟩ := m_bndE hf
    obtain ⟨v6, e7, hf⟩ := m_bndE hf
    obtain ⟨q8, hf⟩ := m_chkE hf
    obtain ⟨S7, e9, hf⟩ := m_bndE hf
    have h_S7 := eqt_I h_o4 e9
    exact eqt_t h_S7 (fq_X0_play_227  hf)
theorem fq_X0_play_144 {o : Int32 × ZS} {x0 : Nat} {x2 : Int32} {x3 : Int32} {x5 : Int32} {t0 : Int32} {t1 : Int32} {t2 : Nat} {S : ZS}  (hf : f_X0_play_144 x0 x2 x3 x5 t0 t1 t2 S = some o)   : EqT S o.2 := by
  have h_S : EqT S S := eqt_0
  unfold f_X0_play_144 at hf
  obtain ⟨q1, hf⟩ := m_chkE hf
  obtain ⟨o1, ho, hf⟩ := m_calE hf
  have h_o1 := eqt_t h_S (fq_X0_put ho)
  clear ho
  obtain ⟨q2, hf⟩ := m_chkE hf
  obtain ⟨b2, -, hf⟩ := m_calE hf
  obtain ⟨q3, hf⟩ := m_chkE hf
  obtain ⟨-, hf⟩ := m_chkE hf
  obtain ⟨S3, e4, hf⟩ := m_bndE hf
  have h_S3 := eqt_A h_o1 e4
  obtain ⟨q5, hf⟩ := m_chkE hf
  obtain ⟨o4, ho, hf⟩ := m_calE hf
  have h_o4 := eqt_t h_S3 (fq_X0_rightsOf ho)
  clear ho
  obtain ⟨o5, ho, hf⟩ := m_calE hf
  have h_o5 := eqt_t h_o4 (fq_X0_rightsOf ho)
  clear ho
  obtain ⟨v6, e6, hf⟩ := m_bndE hf
  obtain ⟨v7, e7, hf⟩ := m_bndE hf
  obtain ⟨v8, e8, hf⟩ := m_bndE hf
  obtain ⟨q9, hf⟩ := m_chkE hf
  obtain ⟨S9, e10, hf⟩ := m_bndE hf
  have h_S9 := eqt_I h_o5 e10
  obtain ⟨q11, hf⟩ := m_chkE hf
  obtain ⟨S10, e12, hf⟩ := m_bndE hf
  have h_S10 := eqt_I h_S9 e12
  rcases m_ifE hf with ⟨-, hf⟩ | ⟨-, hf⟩
  ·
    exact eqt_t h_S10 (fq_X0_play_227  hf)
  ·
    obtain ⟨v11, e13, hf⟩ := m_bndE hf
    rcases m_ifE hf with ⟨-, hf⟩ | ⟨-, hf⟩
    ·
      exact eqt_t h_S10 (fq_X0_play_200  hf)
    ·
      obtain ⟨v12, e14, hf⟩ := m_bndE hf
      rcases m_ifE hf with ⟨-, hf⟩ | ⟨-, hf⟩
      ·
        exact eqt_t h_S10 (fq_X0_play_200  hf)
      ·
        exact eqt_t h_S10 (fq_X0_play_227  hf)
theorem fq_X0_play_118 {o : Int32 × ZS} {x0 : Nat} {x2 : Int32} {x3 : Int32} {x4 : Int32} {x5 : Int32} {S : ZS}  (hf : f_X0_play_118 x0 x2 x3 x4 x5 S = some o)   : EqT S o.2 := by
  have h_S : EqT S S := eqt_0
  unfold f_X0_play_118 at hf
  rcases m_ifE hf with ⟨-, hf⟩ | ⟨-, hf⟩
  ·
    obtain ⟨q1, hf⟩ := m_chkE hf
    obtain ⟨b3, -, hf⟩ := m_calE hf
    obtain ⟨q2, hf⟩ := m_chkE hf
    obtain ⟨-, hf⟩ := m_chkE hf
    obtain ⟨v4, e3, hf⟩ := m_bndE hf
    exact eqt_t h_S (fq_X0_play_144  hf)
  ·
    obtain ⟨q4, hf⟩ := m_chkE hf
    obtain ⟨v1, e5, hf⟩ := m_bndE hf
    obtain ⟨v2, e6, hf⟩ := m_bndE hf
    exact eqt_t h_S (fq_X0_play_144  hf)
theorem fq_X0_play_91 {o : Int32 × ZS} {x0 : Nat} {x2 : Int32} {x3 : Int32} {x4 : Int32} {x5 : Int32} {t0 : Int32} {S : ZS}  (hf : f_X0_play_91 x0 x2 x3 x4 x5 t0 S = some o)   : EqT S o.2 := by
  have h_S : EqT S S := eqt_0
  unfold f_X0_play_91 at hf
  obtain ⟨q1, hf⟩ := m_chkE hf
  obtain ⟨b1, -, hf⟩ := m_calE hf
  obtain ⟨v2, e2, hf⟩ := m_bndE hf
  obtain ⟨v3, e3, hf⟩ := m_bndE hf
  obtain ⟨q4, hf⟩ := m_chkE hf
  obtain ⟨b4, -, hf⟩ := m_calE hf
  obtain ⟨q5, hf⟩ := m_chkE hf
  obtain ⟨-, hf⟩ := m_chkE hf
  obtain ⟨v5, e6, hf⟩ := m_bndE hf
  obtain ⟨q7, hf⟩ := m_chkE hf
  obtain ⟨-, hf⟩ := m_chkE hf
  obtain ⟨S6, e8, hf⟩ := m_bndE hf
  have h_S6 := eqt_A h_S e8
  obtain ⟨q9, hf⟩ := m_chkE hf
  obtain ⟨b7, -, hf⟩ := m_calE hf
  obtain ⟨q10, hf⟩ := m_chkE hf
  obtain ⟨-, hf⟩ := m_chkE hf
  obtain ⟨S8, e11, hf⟩ := m_bndE hf
  have h_S8 := eqt_A h_S6 e11
  exact eqt_t h_S8 (fq_X0_play_118  hf)
theorem fq_X0_play_66 {o : Int32 × ZS} {x0 : Nat} {x2 : Int32} {x3 : Int32} {x4 : Int32} {x5 : Int32} {S : ZS}  (hf : f_X0_play_66 x0 x2 x3 x4 x5 S = some o)   : EqT S o.2 := by
  have h_S : EqT S S := eqt_0
  unfold f_X0_play_66 at hf
  obtain ⟨q1, hf⟩ := m_chkE hf
  obtain ⟨o1, ho, hf⟩ := m_calE hf
  have h_o1 := eqt_t h_S (fq_X0_castles ho)
  clear ho
  rcases m_ifE hf with ⟨-, hf⟩ | ⟨-, hf⟩
  ·
    exact eqt_t h_o1 (fq_X0_play_118  hf)
  ·
    rcases m_ifE hf with ⟨-, hf⟩ | ⟨-, hf⟩
    ·
      obtain ⟨v2, e2, hf⟩ := m_bndE hf
      exact eqt_t h_o1 (fq_X0_play_91  hf)
    ·
      obtain ⟨v3, e3, hf⟩ := m_bndE hf
      exact eqt_t h_o1 (fq_X0_play_91  hf)
theorem fq_X0_play_36 {o : Int32 × ZS} {x0 : Nat} {x2 : Int32} {x3 : Int32} {x4 : Int32} {t0 : Int32} {S : ZS}  (hf : f_X0_play_36 x0 x2 x3 x4 t0 S = some o)   : EqT S o.2 := by
  have h_S : EqT S S := eqt_0
  unfold f_X0_play_36 at hf
  rcases m_ifE hf with ⟨-, hf⟩ | ⟨-, hf⟩
  ·
    exact eqt_t h_S (fq_X0_play_66  hf)
  ·
    obtain ⟨q1, hf⟩ := m_chkE hf
    rcases m_ifE hf with ⟨-, hf⟩ | ⟨-, hf⟩
    ·
      obtain ⟨q2, hf⟩ := m_chkE hf
      obtain ⟨b1, -, hf⟩ := m_calE hf
      obtain ⟨v2, e3, hf⟩ := m_bndE hf
      obtain ⟨v3, e4, hf⟩ := m_bndE hf
      obtain ⟨v4, e5, hf⟩ := m_bndE hf
      obtain ⟨q6, hf⟩ := m_chkE hf
      obtain ⟨-, hf⟩ := m_chkE hf
      obtain ⟨S5, e7, hf⟩ := m_bndE hf
      have h_S5 := eqt_A h_S e7
      exact eqt_t h_S5 (fq_X0_play_66  hf)
    ·
      exact eqt_t h_S (fq_X0_play_66  hf)
theorem fq_X0_play_0 {o : Int32 × ZS} {x0 : Nat} {x1 : Int32} {S : ZS}  (hf : f_X0_play_0 x0 x1 S = some o)   : EqT S o.2 := by
  have h_S : EqT S S := eqt_0
  unfold f_X0_play_0 at hf
  obtain ⟨v1, e1, hf⟩ := m_bndE hf
  obtain ⟨v2, e2, hf⟩ := m_bndE hf
  obtain ⟨v3, e3, hf⟩ := m_bndE hf
  obtain ⟨v4, e4, hf⟩ := m_bndE hf
  obtain ⟨v5, e5, hf⟩ := m_bndE hf
  obtain ⟨q6, hf⟩ := m_chkE hf
  obtain ⟨o6, ho, hf⟩ := m_calE hf
  have h_o6 := eqt_t h_S (fq_X0_kindAt ho)
  clear ho
  rcases m_ifE hf with ⟨-, hf⟩ | ⟨-, hf⟩
  ·
    exact eqt_t h_o6 (fq_X0_play_36  hf)
  ·
    exact eqt_t h_o6 (fq_X0_play_36  hf)
theorem fq_X0_play {o : Int32 × ZS} {x0 : Nat} {x1 : Int32} {S : ZS}  (hf : f_X0_play x0 x1 S = some o)   : EqT S o.2 := by
  have h_S : EqT S S := eqt_0
  unfold f_X0_play at hf
  exact eqt_t h_S (fq_X0_play_0  hf)
theorem fq_X6_init_0 {o : Int32 × ZS} {x0 : Nat} {S : ZS}  (hf : f_X6_init_0 x0 S = some o)   : EqT S o.2 := by
  have h_S : EqT S S := eqt_0
  unfold f_X6_init_0 at hf
  obtain ⟨q1, hf⟩ := m_chkE hf
  obtain ⟨S1, e2, hf⟩ := m_bndE hf
  have h_S1 := eqt_P h_S e2
  obtain ⟨q3, hf⟩ := m_chkE hf
  obtain ⟨S2, e4, hf⟩ := m_bndE hf
  have h_S2 := eqt_I h_S1 e4
  cases hf
  exact h_S2
theorem fq_X6_init {o : Int32 × ZS} {x0 : Nat} {S : ZS}  (hf : f_X6_init x0 S = some o)   : EqT S o.2 := by
  have h_S : EqT S S := eqt_0
  unfold f_X6_init at hf
  exact eqt_t h_S (fq_X6_init_0  hf)
theorem fq_X6_keep_17 {o : Int32 × ZS} {S : ZS}  (hf : f_X6_keep_17 S = some o)   : EqT S o.2 := by
  have h_S : EqT S S := eqt_0
  unfold f_X6_keep_17 at hf
  cases hf
  exact h_S
theorem fq_X6_keep_0 {o : Int32 × ZS} {x0 : Nat} {x1 : Int32} {S : ZS}  (hf : f_X6_keep_0 x0 x1 S = some o)   : EqT S o.2 := by
  have h_S : EqT S S := eqt_0
  unfold f_X6_keep_0 at hf
  rcases m_ifE hf with ⟨-, hf⟩ | ⟨-, hf⟩
  ·
    exact eqt_t h_S (fq_X6_keep_17  hf)
  ·
    obtain ⟨q1, hf⟩ := m_chkE hf
    rcases m_ifE hf with ⟨-, hf⟩ | ⟨-, hf⟩
    ·
      exact eqt_t h_S (fq_X6_keep_17  hf)
    ·
      obtain ⟨q2, hf⟩ := m_chkE hf
      obtain ⟨S1, e3, hf⟩ := m_bndE hf
      have h_S1 := eqt_I h_S e3
      exact eqt_t h_S1 (fq_X6_keep_17  hf)
theorem fq_X6_keep {o : Int32 × ZS} {x0 : Nat} {x1 : Int32} {S : ZS}  (hf : f_X6_keep x0 x1 S = some o)   : EqT S o.2 := by
  have h_S : EqT S S := eqt_0
  unfold f_X6_keep at hf
  exact eqt_t h_S (fq_X6_keep_0  hf)
theorem fq_X4_become_0 {o : Int32 × ZS} {x0 : Nat} {x1 : Int32} {x2 : Int32} {S : ZS}  (hf : f_X4_become_0 x0 x1 x2 S = some o)   : EqT S o.2 := by
  have h_S : EqT S S := eqt_0
  unfold f_X4_become_0 at hf
  obtain ⟨q1, hf⟩ := m_chkE hf
  obtain ⟨S1, e2, hf⟩ := m_bndE hf
  have h_S1 := eqt_I h_S e2
  obtain ⟨q3, hf⟩ := m_chkE hf
  obtain ⟨S2, e4, hf⟩ := m_bndE hf
  have h_S2 := eqt_I h_S1 e4
  obtain ⟨q5, hf⟩ := m_chkE hf
  obtain ⟨S3, e6, hf⟩ := m_bndE hf
  have h_S3 := eqt_I h_S2 e6
  obtain ⟨q7, hf⟩ := m_chkE hf
  obtain ⟨S4, e8, hf⟩ := m_bndE hf
  have h_S4 := eqt_I h_S3 e8
  obtain ⟨q9, hf⟩ := m_chkE hf
  obtain ⟨S5, e10, hf⟩ := m_bndE hf
  have h_S5 := eqt_I h_S4 e10
  obtain ⟨q11, hf⟩ := m_chkE hf
  obtain ⟨S6, e12, hf⟩ := m_bndE hf
  have h_S6 := eqt_I h_S5 e12
  obtain ⟨q13, hf⟩ := m_chkE hf
  obtain ⟨b7, -, hf⟩ := m_calE hf
  obtain ⟨q14, hf⟩ := m_chkE hf
  obtain ⟨o8, ho, hf⟩ := m_calE hf
  have h_o8 := eqt_t h_S6 (fq_X6_keep ho)
  clear ho
  cases hf
  exact h_o8
theorem fq_X4_become {o : Int32 × ZS} {x0 : Nat} {x1 : Int32} {x2 : Int32} {S : ZS}  (hf : f_X4_become x0 x1 x2 S = some o)   : EqT S o.2 := by
  have h_S : EqT S S := eqt_0
  unfold f_X4_become at hf
  exact eqt_t h_S (fq_X4_become_0  hf)
theorem fq_X1_wipe_0 {o : Int32 × ZS} {x0 : Nat} {S : ZS}  (hf : f_X1_wipe_0 x0 S = some o)   : EqT S o.2 := by
  have h_S : EqT S S := eqt_0
  unfold f_X1_wipe_0 at hf
  obtain ⟨q1, hf⟩ := m_chkE hf
  obtain ⟨b1, -, hf⟩ := m_calE hf
  obtain ⟨q2, hf⟩ := m_chkE hf
  obtain ⟨o2, ho, hf⟩ := m_calE hf
  have h_o2 := eqt_t h_S (fq_X0_setUp ho)
  clear ho
  obtain ⟨q3, hf⟩ := m_chkE hf
  obtain ⟨b3, -, hf⟩ := m_calE hf
  obtain ⟨q4, hf⟩ := m_chkE hf
  obtain ⟨o4, ho, hf⟩ := m_calE hf
  have h_o4 := eqt_t h_o2 (fq_X4_become ho)
  clear ho
  obtain ⟨q5, hf⟩ := m_chkE hf
  obtain ⟨S5, e6, hf⟩ := m_bndE hf
  have h_S5 := eqt_I h_o4 e6
  obtain ⟨q7, hf⟩ := m_chkE hf
  obtain ⟨S6, e8, hf⟩ := m_bndE hf
  have h_S6 := eqt_I h_S5 e8
  obtain ⟨q9, hf⟩ := m_chkE hf
  obtain ⟨S7, e10, hf⟩ := m_bndE hf
  have h_S7 := eqt_I h_S6 e10
  cases hf
  exact h_S7
theorem fq_X1_wipe {o : Int32 × ZS} {x0 : Nat} {S : ZS}  (hf : f_X1_wipe x0 S = some o)   : EqT S o.2 := by
  have h_S : EqT S S := eqt_0
  unfold f_X1_wipe at hf
  exact eqt_t h_S (fq_X1_wipe_0  hf)
theorem fq_X1_has_17 {o : Int32 × ZS} {t0 : Int32} {S : ZS}  (hf : f_X1_has_17 t0 S = some o)   : EqT S o.2 := by
  have h_S : EqT S S := eqt_0
  unfold f_X1_has_17 at hf
  obtain ⟨-, hf⟩ := m_chkE hf
  cases hf
  exact h_S
theorem fq_X1_has_16 {o : Int32 × ZS} {S : ZS}  (hf : f_X1_has_16 S = some o)   : EqT S o.2 := by
  have h_S : EqT S S := eqt_0
  unfold f_X1_has_16 at hf
  exact eqt_t h_S (fq_X1_has_17  hf)
theorem fq_X1_has_0 {o : Int32 × ZS} {x0 : Nat} {x1 : Int32} {S : ZS}  (hf : f_X1_has_0 x0 x1 S = some o)   : EqT S o.2 := by
  have h_S : EqT S S := eqt_0
  unfold f_X1_has_0 at hf
  rcases m_ifE hf with ⟨-, hf⟩ | ⟨-, hf⟩
  ·
    exact eqt_t h_S (fq_X1_has_16  hf)
  ·
    obtain ⟨q1, hf⟩ := m_chkE hf
    rcases m_ifE hf with ⟨-, hf⟩ | ⟨-, hf⟩
    ·
      exact eqt_t h_S (fq_X1_has_16  hf)
    ·
      exact eqt_t h_S (fq_X1_has_17  hf)
theorem fq_X1_has {o : Int32 × ZS} {x0 : Nat} {x1 : Int32} {S : ZS}  (hf : f_X1_has x0 x1 S = some o)   : EqT S o.2 := by
  have h_S : EqT S S := eqt_0
  unfold f_X1_has at hf
  exact eqt_t h_S (fq_X1_has_0  hf)
theorem fq_X1_at_35 {o : Nat × ZS} {t0 : Option Nat} {S : ZS}  (hf : f_X1_at_35 t0 S = some o)   : EqT S o.2 := by
  have h_S : EqT S S := eqt_0
  unfold f_X1_at_35 at hf
  obtain ⟨b1, -, hf⟩ := m_calE hf
  cases hf
  exact h_S
theorem fq_X1_at_22 {o : Nat × ZS} {x0 : Nat} {t0 : Option Nat} {S : ZS}  (hf : f_X1_at_22 x0 t0 S = some o)   : EqT S o.2 := by
  have h_S : EqT S S := eqt_0
  unfold f_X1_at_22 at hf
  rcases m_optE hf with ⟨-, hf⟩ | ⟨b1, -, hf⟩
  ·
    obtain ⟨q1, hf⟩ := m_chkE hf
    obtain ⟨b2, -, hf⟩ := m_calE hf
    exact eqt_t h_S (fq_X1_at_35  hf)
  ·
    exact eqt_t h_S (fq_X1_at_35  hf)
theorem fq_X1_at_21 {o : Nat × ZS} {x0 : Nat} {S : ZS}  (hf : f_X1_at_21 x0 S = some o)   : EqT S o.2 := by
  have h_S : EqT S S := eqt_0
  unfold f_X1_at_21 at hf
  exact eqt_t h_S (fq_X1_at_22  hf)
theorem fq_X1_at_0 {o : Nat × ZS} {x0 : Nat} {x1 : Int32} {S : ZS}  (hf : f_X1_at_0 x0 x1 S = some o)   : EqT S o.2 := by
  have h_S : EqT S S := eqt_0
  unfold f_X1_at_0 at hf
  rcases m_ifE hf with ⟨-, hf⟩ | ⟨-, hf⟩
  ·
    exact eqt_t h_S (fq_X1_at_21  hf)
  ·
    obtain ⟨q1, hf⟩ := m_chkE hf
    rcases m_ifE hf with ⟨-, hf⟩ | ⟨-, hf⟩
    ·
      exact eqt_t h_S (fq_X1_at_21  hf)
    ·
      obtain ⟨q2, hf⟩ := m_chkE hf
      obtain ⟨b1, -, hf⟩ := m_calE hf
      obtain ⟨q3, hf⟩ := m_chkE hf
      obtain ⟨-, hf⟩ := m_chkE hf
      obtain ⟨v2, e4, hf⟩ := m_bndE hf
      exact eqt_t h_S (fq_X1_at_22  hf)
theorem fq_X1_at {o : Nat × ZS} {x0 : Nat} {x1 : Int32} {S : ZS}  (hf : f_X1_at x0 x1 S = some o)   : EqT S o.2 := by
  have h_S : EqT S S := eqt_0
  unfold f_X1_at at hf
  exact eqt_t h_S (fq_X1_at_0  hf)
theorem fq_X1_childWith_52 {o : Int32 × ZS} {x3 : Int32} {S : ZS}  (hf : f_X1_childWith_52 x3 S = some o)   : EqT S o.2 := by
  have h_S : EqT S S := eqt_0
  unfold f_X1_childWith_52 at hf
  cases hf
  exact h_S
theorem fq_X1_childWith_12s {o : Int32 × ZS} {self12 : Nat → Int32 → Int32 → Int32 → ZS → Option (Int32 × ZS)} {x0 : Nat} {x2 : Int32} {x3 : Int32} {x4 : Int32} {S : ZS} (hself12 : ∀ (z0 : Nat) (z1 : Int32) (z2 : Int32) (z3 : Int32) (S : ZS) (o : Int32 × ZS), self12 z0 z1 z2 z3 S = some o → EqT S o.2) (hf : f_X1_childWith_12s self12 x0 x2 x3 x4 S = some o)   : EqT S o.2 := by
  have h_S : EqT S S := eqt_0
  unfold f_X1_childWith_12s at hf
  rcases m_ifE hf with ⟨-, hf⟩ | ⟨-, hf⟩
  ·
    exact eqt_t h_S (fq_X1_childWith_52  hf)
  ·
    rcases m_ifE hf with ⟨-, hf⟩ | ⟨-, hf⟩
    ·
      exact eqt_t h_S (fq_X1_childWith_52  hf)
    ·
      obtain ⟨q1, hf⟩ := m_chkE hf
      obtain ⟨o1, ho, hf⟩ := m_calE hf
      have h_o1 := eqt_t h_S (fq_X1_at ho)
      clear ho
      obtain ⟨q2, hf⟩ := m_chkE hf
      rcases m_ifE hf with ⟨-, hf⟩ | ⟨-, hf⟩
      ·
        exact eqt_t h_o1 (fq_X1_childWith_52  hf)
      ·
        obtain ⟨q3, hf⟩ := m_chkE hf
        obtain ⟨o2, ho, hf⟩ := m_calE hf
        have h_o2 := eqt_t h_o1 (fq_X1_at ho)
        clear ho
        obtain ⟨q4, hf⟩ := m_chkE hf
        obtain ⟨v3, e5, hf⟩ := m_bndE hf
        exact eqt_t h_o2 (hself12 _ _ _ _ _ _ hf)
theorem fq_X1_childWith_12   (n : Nat) : ∀ (y0 : Nat) (y1 : Int32) (y2 : Int32) (y3 : Int32) (S : ZS) (o : Int32 × ZS), f_X1_childWith_12  n y0 y1 y2 y3 S = some o → EqT S o.2 := by
  induction n with
  | zero => intro y0 y1 y2 y3 S o hf; cases hf
  | succ n ih => intro y0 y1 y2 y3 S o hf; exact fq_X1_childWith_12s  ih hf
theorem fq_X1_childWith_0 {o : Int32 × ZS} {x0 : Nat} {x1 : Int32} {x2 : Int32} {S : ZS}  (hf : f_X1_childWith_0 x0 x1 x2 S = some o)   : EqT S o.2 := by
  have h_S : EqT S S := eqt_0
  unfold f_X1_childWith_0 at hf
  obtain ⟨q1, hf⟩ := m_chkE hf
  obtain ⟨o1, ho, hf⟩ := m_calE hf
  have h_o1 := eqt_t h_S (fq_X1_at ho)
  clear ho
  obtain ⟨q2, hf⟩ := m_chkE hf
  exact eqt_t h_o1 (fq_X1_childWith_12  _ _ _ _ _ _ _ hf)
theorem fq_X1_childWith {o : Int32 × ZS} {x0 : Nat} {x1 : Int32} {x2 : Int32} {S : ZS}  (hf : f_X1_childWith x0 x1 x2 S = some o)   : EqT S o.2 := by
  have h_S : EqT S S := eqt_0
  unfold f_X1_childWith at hf
  exact eqt_t h_S (fq_X1_childWith_0  hf)
theorem fq_X1_goesOn_24 {o : Int32 × ZS} {t0 : Int32} {S : ZS}  (hf : f_X1_goesOn_24 t0 S = some o)   : EqT S o.2 := by
  have h_S : EqT S S := eqt_0
  unfold f_X1_goesOn_24 at hf
  obtain ⟨-, hf⟩ := m_chkE hf
  cases hf
  exact h_S
theorem fq_X1_goesOn_0 {o : Int32 × ZS} {x0 : Nat} {x1 : Int32} {S : ZS}  (hf : f_X1_goesOn_0 x0 x1 S = some o)   : EqT S o.2 := by
  have h_S : EqT S S := eqt_0
  unfold f_X1_goesOn_0 at hf
  obtain ⟨q1, hf⟩ := m_chkE hf
  obtain ⟨o1, ho, hf⟩ := m_calE hf
  have h_o1 := eqt_t h_S (fq_X1_at ho)
  clear ho
  obtain ⟨q2, hf⟩ := m_chkE hf
  obtain ⟨q3, hf⟩ := m_chkE hf
  obtain ⟨o2, ho, hf⟩ := m_calE hf
  have h_o2 := eqt_t h_o1 (fq_X1_at ho)
  clear ho
  obtain ⟨q4, hf⟩ := m_chkE hf
  rcases m_ifE hf with ⟨-, hf⟩ | ⟨-, hf⟩
  ·
    exact eqt_t h_o2 (fq_X1_goesOn_24  hf)
  ·
    exact eqt_t h_o2 (fq_X1_goesOn_24  hf)
theorem fq_X1_goesOn {o : Int32 × ZS} {x0 : Nat} {x1 : Int32} {S : ZS}  (hf : f_X1_goesOn x0 x1 S = some o)   : EqT S o.2 := by
  have h_S : EqT S S := eqt_0
  unfold f_X1_goesOn at hf
  exact eqt_t h_S (fq_X1_goesOn_0  hf)
theorem fq_X1_deepOfNext_66 {o : Int32 × ZS} {x2 : Int32} {S : ZS}  (hf : f_X1_deepOfNext_66 x2 S = some o)   : EqT S o.2 := by
  have h_S : EqT S S := eqt_0
  unfold f_X1_deepOfNext_66 at hf
  cases hf
  exact h_S
theorem fq_X1_deepOfNext_49 {o : Int32 × ZS} {self23 : Nat → Int32 → Int32 → Int32 → ZS → Option (Int32 × ZS)} {x0 : Nat} {x3 : Int32} {x4 : Int32} {t0 : Int32} {t1 : Int32} {S : ZS} (hself23 : ∀ (z0 : Nat) (z1 : Int32) (z2 : Int32) (z3 : Int32) (S : ZS) (o : Int32 × ZS), self23 z0 z1 z2 z3 S = some o → EqT S o.2) (hf : f_X1_deepOfNext_49 self23 x0 x3 x4 t0 t1 S = some o)   : EqT S o.2 := by
  have h_S : EqT S S := eqt_0
  unfold f_X1_deepOfNext_49 at hf
  obtain ⟨v1, e1, hf⟩ := m_bndE hf
  obtain ⟨q2, hf⟩ := m_chkE hf
  obtain ⟨o2, ho, hf⟩ := m_calE hf
  have h_o2 := eqt_t h_S (fq_X1_at ho)
  clear ho
  obtain ⟨q3, hf⟩ := m_chkE hf
  obtain ⟨v3, e4, hf⟩ := m_bndE hf
  exact eqt_t h_o2 (hself23 _ _ _ _ _ _ hf)
theorem fq_X1_deepOfNext_23s {o : Int32 × ZS} {self23 : Nat → Int32 → Int32 → Int32 → ZS → Option (Int32 × ZS)} {x0 : Nat} {x2 : Int32} {x3 : Int32} {x4 : Int32} {S : ZS} (hself23 : ∀ (z0 : Nat) (z1 : Int32) (z2 : Int32) (z3 : Int32) (S : ZS) (o : Int32 × ZS), self23 z0 z1 z2 z3 S = some o → EqT S o.2) (hf : f_X1_deepOfNext_23s self23 x0 x2 x3 x4 S = some o)   : EqT S o.2 := by
  have h_S : EqT S S := eqt_0
  unfold f_X1_deepOfNext_23s at hf
  rcases m_ifE hf with ⟨-, hf⟩ | ⟨-, hf⟩
  ·
    exact eqt_t h_S (fq_X1_deepOfNext_66  hf)
  ·
    rcases m_ifE hf with ⟨-, hf⟩ | ⟨-, hf⟩
    ·
      exact eqt_t h_S (fq_X1_deepOfNext_66  hf)
    ·
      obtain ⟨q1, hf⟩ := m_chkE hf
      obtain ⟨o1, ho, hf⟩ := m_calE hf
      have h_o1 := eqt_t h_S (fq_X1_goesOn ho)
      clear ho
      rcases m_ifE hf with ⟨-, hf⟩ | ⟨-, hf⟩
      ·
        exact eqt_t h_o1 (fq_X1_deepOfNext_49 hself23 hf)
      ·
        exact eqt_t h_o1 (fq_X1_deepOfNext_49 hself23 hf)
theorem fq_X1_deepOfNext_23   (n : Nat) : ∀ (y0 : Nat) (y1 : Int32) (y2 : Int32) (y3 : Int32) (S : ZS) (o : Int32 × ZS), f_X1_deepOfNext_23  n y0 y1 y2 y3 S = some o → EqT S o.2 := by
  induction n with
  | zero => intro y0 y1 y2 y3 S o hf; cases hf
  | succ n ih => intro y0 y1 y2 y3 S o hf; exact fq_X1_deepOfNext_23s  ih hf
theorem fq_X1_deepOfNext_17 {o : Int32 × ZS} {x0 : Nat} {x1 : Int32} {t0 : Int32} {S : ZS}  (hf : f_X1_deepOfNext_17 x0 x1 t0 S = some o)   : EqT S o.2 := by
  have h_S : EqT S S := eqt_0
  unfold f_X1_deepOfNext_17 at hf
  exact eqt_t h_S (fq_X1_deepOfNext_23  _ _ _ _ _ _ _ hf)
theorem fq_X1_deepOfNext_0 {o : Int32 × ZS} {x0 : Nat} {x1 : Int32} {S : ZS}  (hf : f_X1_deepOfNext_0 x0 x1 S = some o)   : EqT S o.2 := by
  have h_S : EqT S S := eqt_0
  unfold f_X1_deepOfNext_0 at hf
  obtain ⟨q1, hf⟩ := m_chkE hf
  obtain ⟨o1, ho, hf⟩ := m_calE hf
  have h_o1 := eqt_t h_S (fq_X1_at ho)
  clear ho
  obtain ⟨q2, hf⟩ := m_chkE hf
  rcases m_ifE hf with ⟨-, hf⟩ | ⟨-, hf⟩
  ·
    exact eqt_t h_o1 (fq_X1_deepOfNext_17  hf)
  ·
    exact eqt_t h_o1 (fq_X1_deepOfNext_17  hf)
theorem fq_X1_deepOfNext {o : Int32 × ZS} {x0 : Nat} {x1 : Int32} {S : ZS}  (hf : f_X1_deepOfNext x0 x1 S = some o)   : EqT S o.2 := by
  have h_S : EqT S S := eqt_0
  unfold f_X1_deepOfNext at hf
  exact eqt_t h_S (fq_X1_deepOfNext_0  hf)
theorem fq_X1_mayLead_89 {o : Int32 × ZS} {self11 : Nat → Int32 → Nat → Int32 → ZS → Option (Int32 × ZS)} {x0 : Nat} {x1 : Int32} {x2 : Nat} {x3 : Int32} {t0 : Int32} {t1 : Int32} {t2 : Int32} {t3 : Nat} {S : ZS} (hself11 : ∀ (z0 : Nat) (z1 : Int32) (z2 : Nat) (z3 : Int32) (S : ZS) (o : Int32 × ZS), self11 z0 z1 z2 z3 S = some o → EqT S o.2) (hf : f_X1_mayLead_89 self11 x0 x1 x2 x3 t0 t1 t2 t3 S = some o)   : EqT S o.2 := by
  have h_S : EqT S S := eqt_0
  unfold f_X1_mayLead_89 at hf
  obtain ⟨v1, e1, hf⟩ := m_bndE hf
  obtain ⟨q2, hf⟩ := m_chkE hf
  obtain ⟨-, hf⟩ := m_chkE hf
  obtain ⟨S2, e3, hf⟩ := m_bndE hf
  have h_S2 := eqt_A h_S e3
  obtain ⟨q4, hf⟩ := m_chkE hf
  obtain ⟨-, hf⟩ := m_chkE hf
  obtain ⟨v3, e5, hf⟩ := m_bndE hf
  rcases m_ifE hf with ⟨-, hf⟩ | ⟨-, hf⟩
  ·
    obtain ⟨v4, e6, hf⟩ := m_bndE hf
    exact eqt_t h_S2 (hself11 _ _ _ _ _ _ hf)
  ·
    obtain ⟨-, hf⟩ := m_chkE hf
    cases hf
    exact h_S2
theorem fq_X1_mayLead_78 {o : Int32 × ZS} {self11 : Nat → Int32 → Nat → Int32 → ZS → Option (Int32 × ZS)} {x0 : Nat} {x1 : Int32} {x2 : Nat} {x3 : Int32} {x5 : Int32} {t0 : Int32} {t1 : Int32} {t2 : Nat} {S : ZS} (hself11 : ∀ (z0 : Nat) (z1 : Int32) (z2 : Nat) (z3 : Int32) (S : ZS) (o : Int32 × ZS), self11 z0 z1 z2 z3 S = some o → EqT S o.2) (hf : f_X1_mayLead_78 self11 x0 x1 x2 x3 x5 t0 t1 t2 S = some o)   : EqT S o.2 := by
  have h_S : EqT S S := eqt_0
  unfold f_X1_mayLead_78 at hf
  rcases m_ifE hf with ⟨-, hf⟩ | ⟨-, hf⟩
  ·
    exact eqt_t h_S (fq_X1_mayLead_89 hself11 hf)
  ·
    exact eqt_t h_S (fq_X1_mayLead_89 hself11 hf)
theorem fq_X1_mayLead_77 {o : Int32 × ZS} {self11 : Nat → Int32 → Nat → Int32 → ZS → Option (Int32 × ZS)} {x0 : Nat} {x1 : Int32} {x2 : Nat} {x3 : Int32} {x5 : Int32} {t0 : Int32} {t1 : Nat} {S : ZS} (hself11 : ∀ (z0 : Nat) (z1 : Int32) (z2 : Nat) (z3 : Int32) (S : ZS) (o : Int32 × ZS), self11 z0 z1 z2 z3 S = some o → EqT S o.2) (hf : f_X1_mayLead_77 self11 x0 x1 x2 x3 x5 t0 t1 S = some o)   : EqT S o.2 := by
  have h_S : EqT S S := eqt_0
  unfold f_X1_mayLead_77 at hf
  exact eqt_t h_S (fq_X1_mayLead_78 hself11 hf)
theorem fq_X1_mayLead_55 {o : Int32 × ZS} {self11 : Nat → Int32 → Nat → Int32 → ZS → Option (Int32 × ZS)} {x0 : Nat} {x1 : Int32} {x2 : Nat} {x3 : Int32} {x4 : Int32} {t0 : Int32} {S : ZS} (hself11 : ∀ (z0 : Nat) (z1 : Int32) (z2 : Nat) (z3 : Int32) (S : ZS) (o : Int32 × ZS), self11 z0 z1 z2 z3 S = some o → EqT S o.2) (hf : f_X1_mayLead_55 self11 x0 x1 x2 x3 x4 t0 S = some o)   : EqT S o.2 := by
  have h_S : EqT S S := eqt_0
  unfold f_X1_mayLead_55 at hf
  rcases m_ifE hf with ⟨-, hf⟩ | ⟨-, hf⟩
  ·
    exact eqt_t h_S (fq_X1_mayLead_77 hself11 hf)
  ·
    rcases m_ifE hf with ⟨-, hf⟩ | ⟨-, hf⟩
    ·
      exact eqt_t h_S (fq_X1_mayLead_77 hself11 hf)
    ·
      obtain ⟨q1, hf⟩ := m_chkE hf
      obtain ⟨-, hf⟩ := m_chkE hf
      obtain ⟨v1, e2, hf⟩ := m_bndE hf
      exact eqt_t h_S (fq_X1_mayLead_78 hself11 hf)
theorem fq_X1_mayLead_11s {o : Int32 × ZS} {self11 : Nat → Int32 → Nat → Int32 → ZS → Option (Int32 × ZS)} {x0 : Nat} {x1 : Int32} {x2 : Nat} {x3 : Int32} {S : ZS} (hself11 : ∀ (z0 : Nat) (z1 : Int32) (z2 : Nat) (z3 : Int32) (S : ZS) (o : Int32 × ZS), self11 z0 z1 z2 z3 S = some o → EqT S o.2) (hf : f_X1_mayLead_11s self11 x0 x1 x2 x3 S = some o)   : EqT S o.2 := by
  have h_S : EqT S S := eqt_0
  unfold f_X1_mayLead_11s at hf
  obtain ⟨q1, hf⟩ := m_chkE hf
  rcases m_ifE hf with ⟨-, hf⟩ | ⟨-, hf⟩
  ·
    obtain ⟨-, hf⟩ := m_chkE hf
    cases hf
    exact h_S
  ·
    obtain ⟨q2, hf⟩ := m_chkE hf
    obtain ⟨o1, ho, hf⟩ := m_calE hf
    have h_o1 := eqt_t h_S (fq_X1_at ho)
    clear ho
    obtain ⟨q3, hf⟩ := m_chkE hf
    obtain ⟨q4, hf⟩ := m_chkE hf
    obtain ⟨o2, ho, hf⟩ := m_calE hf
    have h_o2 := eqt_t h_o1 (fq_X1_at ho)
    clear ho
    obtain ⟨q5, hf⟩ := m_chkE hf
    rcases m_ifE hf with ⟨-, hf⟩ | ⟨-, hf⟩
    ·
      exact eqt_t h_o2 (fq_X1_mayLead_55 hself11 hf)
    ·
      obtain ⟨q6, hf⟩ := m_chkE hf
      obtain ⟨o3, ho, hf⟩ := m_calE hf
      have h_o3 := eqt_t h_o2 (fq_X1_at ho)
      clear ho
      obtain ⟨q7, hf⟩ := m_chkE hf
      exact eqt_t h_o3 (fq_X1_mayLead_55 hself11 hf)
theorem fq_X1_mayLead_11   (n : Nat) : ∀ (y0 : Nat) (y1 : Int32) (y2 : Nat) (y3 : Int32) (S : ZS) (o : Int32 × ZS), f_X1_mayLead_11  n y0 y1 y2 y3 S = some o → EqT S o.2 := by
  induction n with
  | zero => intro y0 y1 y2 y3 S o hf; cases hf
  | succ n ih => intro y0 y1 y2 y3 S o hf; exact fq_X1_mayLead_11s  ih hf
theorem fq_X1_mayLead_0 {o : Int32 × ZS} {x0 : Nat} {x1 : Int32} {S : ZS}  (hf : f_X1_mayLead_0 x0 x1 S = some o)   : EqT S o.2 := by
  have h_S : EqT S S := eqt_0
  unfold f_X1_mayLead_0 at hf
  obtain ⟨q1, hf⟩ := m_chkE hf
  obtain ⟨b1, -, hf⟩ := m_calE hf
  obtain ⟨q2, hf⟩ := m_chkE hf
  obtain ⟨-, hf⟩ := m_chkE hf
  obtain ⟨S2, e3, hf⟩ := m_bndE hf
  have h_S2 := eqt_A h_S e3
  exact eqt_t h_S2 (fq_X1_mayLead_11  _ _ _ _ _ _ _ hf)
theorem fq_X1_mayLead {o : Int32 × ZS} {x0 : Nat} {x1 : Int32} {S : ZS}  (hf : f_X1_mayLead x0 x1 S = some o)   : EqT S o.2 := by
  have h_S : EqT S S := eqt_0
  unfold f_X1_mayLead at hf
  exact eqt_t h_S (fq_X1_mayLead_0  hf)
theorem fq_X1_putFirst_56 {o : Int32 × ZS} {x0 : Nat} {x1 : Int32} {x2 : Nat} {x3 : Int32} {S : ZS}  (hf : f_X1_putFirst_56 x0 x1 x2 x3 S = some o)   : EqT S o.2 := by
  have h_S : EqT S S := eqt_0
  unfold f_X1_putFirst_56 at hf
  obtain ⟨q1, hf⟩ := m_chkE hf
  obtain ⟨o1, ho, hf⟩ := m_calE hf
  have h_o1 := eqt_t h_S (fq_X1_at ho)
  clear ho
  obtain ⟨q2, hf⟩ := m_chkE hf
  obtain ⟨o2, ho, hf⟩ := m_calE hf
  have h_o2 := eqt_t h_o1 (fq_X1_at ho)
  clear ho
  obtain ⟨q3, hf⟩ := m_chkE hf
  obtain ⟨q4, hf⟩ := m_chkE hf
  obtain ⟨S3, e5, hf⟩ := m_bndE hf
  have h_S3 := eqt_I h_o2 e5
  obtain ⟨q6, hf⟩ := m_chkE hf
  obtain ⟨o4, ho, hf⟩ := m_calE hf
  have h_o4 := eqt_t h_S3 (fq_X1_at ho)
  clear ho
  obtain ⟨q7, hf⟩ := m_chkE hf
  obtain ⟨q8, hf⟩ := m_chkE hf
  obtain ⟨S5, e9, hf⟩ := m_bndE hf
  have h_S5 := eqt_I h_o4 e9
  obtain ⟨q10, hf⟩ := m_chkE hf
  obtain ⟨S6, e11, hf⟩ := m_bndE hf
  have h_S6 := eqt_I h_S5 e11
  cases hf
  exact h_S6
theorem fq_X1_putFirst_21s {o : Int32 × ZS} {self21 : Nat → Int32 → Nat → Int32 → Int32 → ZS → Option (Int32 × ZS)} {x0 : Nat} {x1 : Int32} {x2 : Nat} {x3 : Int32} {x4 : Int32} {S : ZS} (hself21 : ∀ (z0 : Nat) (z1 : Int32) (z2 : Nat) (z3 : Int32) (z4 : Int32) (S : ZS) (o : Int32 × ZS), self21 z0 z1 z2 z3 z4 S = some o → EqT S o.2) (hf : f_X1_putFirst_21s self21 x0 x1 x2 x3 x4 S = some o)   : EqT S o.2 := by
  have h_S : EqT S S := eqt_0
  unfold f_X1_putFirst_21s at hf
  rcases m_ifE hf with ⟨-, hf⟩ | ⟨-, hf⟩
  ·
    exact eqt_t h_S (fq_X1_putFirst_56  hf)
  ·
    obtain ⟨q1, hf⟩ := m_chkE hf
    obtain ⟨o1, ho, hf⟩ := m_calE hf
    have h_o1 := eqt_t h_S (fq_X1_at ho)
    clear ho
    obtain ⟨q2, hf⟩ := m_chkE hf
    rcases m_ifE hf with ⟨-, hf⟩ | ⟨-, hf⟩
    ·
      exact eqt_t h_o1 (fq_X1_putFirst_56  hf)
    ·
      obtain ⟨q3, hf⟩ := m_chkE hf
      obtain ⟨o2, ho, hf⟩ := m_calE hf
      have h_o2 := eqt_t h_o1 (fq_X1_at ho)
      clear ho
      obtain ⟨q4, hf⟩ := m_chkE hf
      obtain ⟨v3, e5, hf⟩ := m_bndE hf
      exact eqt_t h_o2 (hself21 _ _ _ _ _ _ _ hf)
theorem fq_X1_putFirst_21   (n : Nat) : ∀ (y0 : Nat) (y1 : Int32) (y2 : Nat) (y3 : Int32) (y4 : Int32) (S : ZS) (o : Int32 × ZS), f_X1_putFirst_21  n y0 y1 y2 y3 y4 S = some o → EqT S o.2 := by
  induction n with
  | zero => intro y0 y1 y2 y3 y4 S o hf; cases hf
  | succ n ih => intro y0 y1 y2 y3 y4 S o hf; exact fq_X1_putFirst_21s  ih hf
theorem fq_X1_putFirst_0 {o : Int32 × ZS} {x0 : Nat} {x1 : Int32} {S : ZS}  (hf : f_X1_putFirst_0 x0 x1 S = some o)   : EqT S o.2 := by
  have h_S : EqT S S := eqt_0
  unfold f_X1_putFirst_0 at hf
  obtain ⟨q1, hf⟩ := m_chkE hf
  obtain ⟨o1, ho, hf⟩ := m_calE hf
  have h_o1 := eqt_t h_S (fq_X1_at ho)
  clear ho
  obtain ⟨q2, hf⟩ := m_chkE hf
  obtain ⟨q3, hf⟩ := m_chkE hf
  obtain ⟨o2, ho, hf⟩ := m_calE hf
  have h_o2 := eqt_t h_o1 (fq_X1_at ho)
  clear ho
  obtain ⟨q4, hf⟩ := m_chkE hf
  exact eqt_t h_o2 (fq_X1_putFirst_21  _ _ _ _ _ _ _ _ hf)
theorem fq_X1_putFirst {o : Int32 × ZS} {x0 : Nat} {x1 : Int32} {S : ZS}  (hf : f_X1_putFirst x0 x1 S = some o)   : EqT S o.2 := by
  have h_S : EqT S S := eqt_0
  unfold f_X1_putFirst at hf
  exact eqt_t h_S (fq_X1_putFirst_0  hf)
theorem fq_X1_standAt_68s {o : Int32 × ZS} {self68 : Nat → Nat → Int32 → ZS → Option (Int32 × ZS)} {x2 : Nat} {x3 : Nat} {x5 : Int32} {S : ZS} (hself68 : ∀ (z0 : Nat) (z1 : Nat) (z2 : Int32) (S : ZS) (o : Int32 × ZS), self68 z0 z1 z2 S = some o → EqT S o.2) (hf : f_X1_standAt_68s self68 x2 x3 x5 S = some o)   : EqT S o.2 := by
  have h_S : EqT S S := eqt_0
  unfold f_X1_standAt_68s at hf
  rcases m_ifE hf with ⟨-, hf⟩ | ⟨-, hf⟩
  ·
    cases hf
    exact h_S
  ·
    obtain ⟨q1, hf⟩ := m_chkE hf
    obtain ⟨-, hf⟩ := m_chkE hf
    obtain ⟨v1, e2, hf⟩ := m_bndE hf
    obtain ⟨q3, hf⟩ := m_chkE hf
    obtain ⟨o2, ho, hf⟩ := m_calE hf
    have h_o2 := eqt_t h_S (fq_X0_play ho)
    clear ho
    obtain ⟨v3, e4, hf⟩ := m_bndE hf
    exact eqt_t h_o2 (hself68 _ _ _ _ _ hf)
theorem fq_X1_standAt_68   (n : Nat) : ∀ (y0 : Nat) (y1 : Nat) (y2 : Int32) (S : ZS) (o : Int32 × ZS), f_X1_standAt_68  n y0 y1 y2 S = some o → EqT S o.2 := by
  induction n with
  | zero => intro y0 y1 y2 S o hf; cases hf
  | succ n ih => intro y0 y1 y2 S o hf; exact fq_X1_standAt_68s  ih hf
theorem fq_X1_standAt_54 {o : Int32 × ZS} {x0 : Nat} {x2 : Nat} {x3 : Nat} {x4 : Int32} {S : ZS}  (hf : f_X1_standAt_54 x0 x2 x3 x4 S = some o)   : EqT S o.2 := by
  have h_S : EqT S S := eqt_0
  unfold f_X1_standAt_54 at hf
  obtain ⟨q1, hf⟩ := m_chkE hf
  obtain ⟨b1, -, hf⟩ := m_calE hf
  obtain ⟨q2, hf⟩ := m_chkE hf
  obtain ⟨o2, ho, hf⟩ := m_calE hf
  have h_o2 := eqt_t h_S (fq_X0_copyFrom ho)
  clear ho
  obtain ⟨v3, e3, hf⟩ := m_bndE hf
  exact eqt_t h_o2 (fq_X1_standAt_68  _ _ _ _ _ _ hf)
theorem fq_X1_standAt_11s {o : Int32 × ZS} {self11 : Nat → Nat → Nat → Int32 → Int32 → ZS → Option (Int32 × ZS)} {x0 : Nat} {x2 : Nat} {x3 : Nat} {x4 : Int32} {x5 : Int32} {S : ZS} (hself11 : ∀ (z0 : Nat) (z1 : Nat) (z2 : Nat) (z3 : Int32) (z4 : Int32) (S : ZS) (o : Int32 × ZS), self11 z0 z1 z2 z3 z4 S = some o → EqT S o.2) (hf : f_X1_standAt_11s self11 x0 x2 x3 x4 x5 S = some o)   : EqT S o.2 := by
  have h_S : EqT S S := eqt_0
  unfold f_X1_standAt_11s at hf
  rcases m_ifE hf with ⟨-, hf⟩ | ⟨-, hf⟩
  ·
    exact eqt_t h_S (fq_X1_standAt_54  hf)
  ·
    rcases m_ifE hf with ⟨-, hf⟩ | ⟨-, hf⟩
    ·
      exact eqt_t h_S (fq_X1_standAt_54  hf)
    ·
      obtain ⟨q1, hf⟩ := m_chkE hf
      obtain ⟨o1, ho, hf⟩ := m_calE hf
      have h_o1 := eqt_t h_S (fq_X1_at ho)
      clear ho
      obtain ⟨q2, hf⟩ := m_chkE hf
      obtain ⟨q3, hf⟩ := m_chkE hf
      obtain ⟨-, hf⟩ := m_chkE hf
      obtain ⟨S2, e4, hf⟩ := m_bndE hf
      have h_S2 := eqt_A h_o1 e4
      obtain ⟨v3, e5, hf⟩ := m_bndE hf
      obtain ⟨q6, hf⟩ := m_chkE hf
      obtain ⟨o4, ho, hf⟩ := m_calE hf
      have h_o4 := eqt_t h_S2 (fq_X1_at ho)
      clear ho
      obtain ⟨q7, hf⟩ := m_chkE hf
      exact eqt_t h_o4 (hself11 _ _ _ _ _ _ _ hf)
theorem fq_X1_standAt_11   (n : Nat) : ∀ (y0 : Nat) (y1 : Nat) (y2 : Nat) (y3 : Int32) (y4 : Int32) (S : ZS) (o : Int32 × ZS), f_X1_standAt_11  n y0 y1 y2 y3 y4 S = some o → EqT S o.2 := by
  induction n with
  | zero => intro y0 y1 y2 y3 y4 S o hf; cases hf
  | succ n ih => intro y0 y1 y2 y3 y4 S o hf; exact fq_X1_standAt_11s  ih hf
theorem fq_X1_standAt_0 {o : Int32 × ZS} {x0 : Nat} {x1 : Int32} {x2 : Nat} {S : ZS}  (hf : f_X1_standAt_0 x0 x1 x2 S = some o)   : EqT S o.2 := by
  have h_S : EqT S S := eqt_0
  unfold f_X1_standAt_0 at hf
  obtain ⟨q1, hf⟩ := m_chkE hf
  obtain ⟨b1, -, hf⟩ := m_calE hf
  exact eqt_t h_S (fq_X1_standAt_11  _ _ _ _ _ _ _ _ hf)
theorem fq_X1_standAt {o : Int32 × ZS} {x0 : Nat} {x1 : Int32} {x2 : Nat} {S : ZS}  (hf : f_X1_standAt x0 x1 x2 S = some o)   : EqT S o.2 := by
  have h_S : EqT S S := eqt_0
  unfold f_X1_standAt at hf
  exact eqt_t h_S (fq_X1_standAt_0  hf)
theorem fq_X6_at_22 {o : Int32 × ZS} {t0 : Int32} {S : ZS}  (hf : f_X6_at_22 t0 S = some o)   : EqT S o.2 := by
  have h_S : EqT S S := eqt_0
  unfold f_X6_at_22 at hf
  obtain ⟨-, hf⟩ := m_chkE hf
  cases hf
  exact h_S
theorem fq_X6_at_21 {o : Int32 × ZS} {S : ZS}  (hf : f_X6_at_21 S = some o)   : EqT S o.2 := by
  have h_S : EqT S S := eqt_0
  unfold f_X6_at_21 at hf
  exact eqt_t h_S (fq_X6_at_22  hf)
theorem fq_X6_at_0 {o : Int32 × ZS} {x0 : Nat} {x1 : Int32} {S : ZS}  (hf : f_X6_at_0 x0 x1 S = some o)   : EqT S o.2 := by
  have h_S : EqT S S := eqt_0
  unfold f_X6_at_0 at hf
  rcases m_ifE hf with ⟨-, hf⟩ | ⟨-, hf⟩
  ·
    exact eqt_t h_S (fq_X6_at_21  hf)
  ·
    obtain ⟨q1, hf⟩ := m_chkE hf
    rcases m_ifE hf with ⟨-, hf⟩ | ⟨-, hf⟩
    ·
      exact eqt_t h_S (fq_X6_at_21  hf)
    ·
      obtain ⟨q2, hf⟩ := m_chkE hf
      obtain ⟨b1, -, hf⟩ := m_calE hf
      obtain ⟨q3, hf⟩ := m_chkE hf
      obtain ⟨-, hf⟩ := m_chkE hf
      obtain ⟨v2, e4, hf⟩ := m_bndE hf
      exact eqt_t h_S (fq_X6_at_22  hf)
theorem fq_X6_at {o : Int32 × ZS} {x0 : Nat} {x1 : Int32} {S : ZS}  (hf : f_X6_at x0 x1 S = some o)   : EqT S o.2 := by
  have h_S : EqT S S := eqt_0
  unfold f_X6_at at hf
  exact eqt_t h_S (fq_X6_at_0  hf)
theorem fq_X6_isLike_15s {o : Int32 × ZS} {self15 : Nat → Nat → Int32 → ZS → Option (Int32 × ZS)} {x0 : Nat} {x1 : Nat} {x2 : Int32} {S : ZS} (hself15 : ∀ (z0 : Nat) (z1 : Nat) (z2 : Int32) (S : ZS) (o : Int32 × ZS), self15 z0 z1 z2 S = some o → EqT S o.2) (hf : f_X6_isLike_15s self15 x0 x1 x2 S = some o)   : EqT S o.2 := by
  have h_S : EqT S S := eqt_0
  unfold f_X6_isLike_15s at hf
  obtain ⟨q1, hf⟩ := m_chkE hf
  rcases m_ifE hf with ⟨-, hf⟩ | ⟨-, hf⟩
  ·
    obtain ⟨-, hf⟩ := m_chkE hf
    cases hf
    exact h_S
  ·
    obtain ⟨q2, hf⟩ := m_chkE hf
    obtain ⟨b1, -, hf⟩ := m_calE hf
    obtain ⟨q3, hf⟩ := m_chkE hf
    obtain ⟨-, hf⟩ := m_chkE hf
    obtain ⟨v2, e4, hf⟩ := m_bndE hf
    obtain ⟨q5, hf⟩ := m_chkE hf
    obtain ⟨o3, ho, hf⟩ := m_calE hf
    have h_o3 := eqt_t h_S (fq_X6_at ho)
    clear ho
    rcases m_ifE hf with ⟨-, hf⟩ | ⟨-, hf⟩
    ·
      obtain ⟨v4, e6, hf⟩ := m_bndE hf
      exact eqt_t h_o3 (hself15 _ _ _ _ _ hf)
    ·
      obtain ⟨-, hf⟩ := m_chkE hf
      cases hf
      exact h_o3
theorem fq_X6_isLike_15   (n : Nat) : ∀ (y0 : Nat) (y1 : Nat) (y2 : Int32) (S : ZS) (o : Int32 × ZS), f_X6_isLike_15  n y0 y1 y2 S = some o → EqT S o.2 := by
  induction n with
  | zero => intro y0 y1 y2 S o hf; cases hf
  | succ n ih => intro y0 y1 y2 S o hf; exact fq_X6_isLike_15s  ih hf
theorem fq_X6_isLike_0 {o : Int32 × ZS} {x0 : Nat} {x1 : Nat} {S : ZS}  (hf : f_X6_isLike_0 x0 x1 S = some o)   : EqT S o.2 := by
  have h_S : EqT S S := eqt_0
  unfold f_X6_isLike_0 at hf
  obtain ⟨q1, hf⟩ := m_chkE hf
  obtain ⟨q2, hf⟩ := m_chkE hf
  rcases m_ifE hf with ⟨-, hf⟩ | ⟨-, hf⟩
  ·
    exact eqt_t h_S (fq_X6_isLike_15  _ _ _ _ _ _ hf)
  ·
    obtain ⟨-, hf⟩ := m_chkE hf
    cases hf
    exact h_S
theorem fq_X6_isLike {o : Int32 × ZS} {x0 : Nat} {x1 : Nat} {S : ZS}  (hf : f_X6_isLike x0 x1 S = some o)   : EqT S o.2 := by
  have h_S : EqT S S := eqt_0
  unfold f_X6_isLike at hf
  exact eqt_t h_S (fq_X6_isLike_0  hf)
theorem fq_J0_coder_7d493_14 {o : Int32 × ZS} {t0 : Int32} {S : ZS}  (hf : f_J0_coder_7d493_14 t0 S = some o)   : EqT S o.2 := by
  have h_S : EqT S S := eqt_0
  unfold f_J0_coder_7d493_14 at hf
  obtain ⟨-, hf⟩ := m_chkE hf
  cases hf
  exact h_S
theorem fq_J0_coder_7d493_0 {o : Int32 × ZS} {x0 : Nat} {S : ZS}  (hf : f_J0_coder_7d493_0 x0 S = some o)   : EqT S o.2 := by
  have h_S : EqT S S := eqt_0
  unfold f_J0_coder_7d493_0 at hf
  rcases m_ifE hf with ⟨-, hf⟩ | ⟨-, hf⟩
  ·
    exact eqt_t h_S (fq_J0_coder_7d493_14  hf)
  ·
    obtain ⟨-, hf⟩ := m_chkE hf
    exact eqt_t h_S (fq_J0_coder_7d493_14  hf)
theorem fq_J0_coder_7d493 {o : Int32 × ZS} {x0 : Nat} {S : ZS}  (hf : f_J0_coder_7d493 x0 S = some o)   : EqT S o.2 := by
  have h_S : EqT S S := eqt_0
  unfold f_J0_coder_7d493 at hf
  exact eqt_t h_S (fq_J0_coder_7d493_0  hf)
theorem fq_J0_length_8abf5_0 {o : Int32 × ZS} {x0 : Nat} {S : ZS}  (hf : f_J0_length_8abf5_0 x0 S = some o)   : EqT S o.2 := by
  have h_S : EqT S S := eqt_0
  unfold f_J0_length_8abf5_0 at hf
  obtain ⟨-, hf⟩ := m_chkE hf
  obtain ⟨-, hf⟩ := m_chkE hf
  obtain ⟨v1, e1, hf⟩ := m_bndE hf
  obtain ⟨-, hf⟩ := m_chkE hf
  obtain ⟨o2, ho, hf⟩ := m_calE hf
  have h_o2 := eqt_t h_S (fq_J0_coder_7d493 ho)
  clear ho
  obtain ⟨v3, e2, hf⟩ := m_bndE hf
  cases hf
  exact h_o2
theorem fq_J0_length_8abf5 {o : Int32 × ZS} {x0 : Nat} {S : ZS}  (hf : f_J0_length_8abf5 x0 S = some o)   : EqT S o.2 := by
  have h_S : EqT S S := eqt_0
  unfold f_J0_length_8abf5 at hf
  exact eqt_t h_S (fq_J0_length_8abf5_0  hf)
theorem fq_J0_isLatin1_aae02_18 {o : Int32 × ZS} {t0 : Int32} {S : ZS}  (hf : f_J0_isLatin1_aae02_18 t0 S = some o)   : EqT S o.2 := by
  have h_S : EqT S S := eqt_0
  unfold f_J0_isLatin1_aae02_18 at hf
  obtain ⟨-, hf⟩ := m_chkE hf
  cases hf
  exact h_S
theorem fq_J0_isLatin1_aae02_17 {o : Int32 × ZS} {S : ZS}  (hf : f_J0_isLatin1_aae02_17 S = some o)   : EqT S o.2 := by
  have h_S : EqT S S := eqt_0
  unfold f_J0_isLatin1_aae02_17 at hf
  exact eqt_t h_S (fq_J0_isLatin1_aae02_18  hf)
theorem fq_J0_isLatin1_aae02_0 {o : Int32 × ZS} {x0 : Nat} {S : ZS}  (hf : f_J0_isLatin1_aae02_0 x0 S = some o)   : EqT S o.2 := by
  have h_S : EqT S S := eqt_0
  unfold f_J0_isLatin1_aae02_0 at hf
  rcases m_ifE hf with ⟨-, hf⟩ | ⟨-, hf⟩
  ·
    exact eqt_t h_S (fq_J0_isLatin1_aae02_17  hf)
  ·
    obtain ⟨-, hf⟩ := m_chkE hf
    rcases m_ifE hf with ⟨-, hf⟩ | ⟨-, hf⟩
    ·
      exact eqt_t h_S (fq_J0_isLatin1_aae02_18  hf)
    ·
      exact eqt_t h_S (fq_J0_isLatin1_aae02_17  hf)
theorem fq_J0_isLatin1_aae02 {o : Int32 × ZS} {x0 : Nat} {S : ZS}  (hf : f_J0_isLatin1_aae02 x0 S = some o)   : EqT S o.2 := by
  have h_S : EqT S S := eqt_0
  unfold f_J0_isLatin1_aae02 at hf
  exact eqt_t h_S (fq_J0_isLatin1_aae02_0  hf)
theorem fq_J3_checkIndex_8e157_0 {o : Int32 × ZS} {x0 : Int32} {x1 : Int32} {S : ZS}  (hf : f_J3_checkIndex_8e157_0 x0 x1 S = some o)   : EqT S o.2 := by
  have h_S : EqT S S := eqt_0
  unfold f_J3_checkIndex_8e157_0 at hf
  rcases m_ifE hf with ⟨-, hf⟩ | ⟨-, hf⟩
  ·
    cases hf
  ·
    rcases m_ifE hf with ⟨-, hf⟩ | ⟨-, hf⟩
    ·
      cases hf
      exact h_S
    ·
      cases hf
theorem fq_J3_checkIndex_8e157 {o : Int32 × ZS} {x0 : Int32} {x1 : Int32} {S : ZS}  (hf : f_J3_checkIndex_8e157 x0 x1 S = some o)   : EqT S o.2 := by
  have h_S : EqT S S := eqt_0
  unfold f_J3_checkIndex_8e157 at hf
  exact eqt_t h_S (fq_J3_checkIndex_8e157_0  hf)
theorem fq_J0_checkIndex_df160_0 {o : Int32 × ZS} {x0 : Int32} {x1 : Int32} {S : ZS}  (hf : f_J0_checkIndex_df160_0 x0 x1 S = some o)   : EqT S o.2 := by
  have h_S : EqT S S := eqt_0
  unfold f_J0_checkIndex_df160_0 at hf
  obtain ⟨o1, ho, hf⟩ := m_calE hf
  have h_o1 := eqt_t h_S (fq_J3_checkIndex_8e157 ho)
  clear ho
  cases hf
  exact h_o1
theorem fq_J0_checkIndex_df160 {o : Int32 × ZS} {x0 : Int32} {x1 : Int32} {S : ZS}  (hf : f_J0_checkIndex_df160 x0 x1 S = some o)   : EqT S o.2 := by
  have h_S : EqT S S := eqt_0
  unfold f_J0_checkIndex_df160 at hf
  exact eqt_t h_S (fq_J0_checkIndex_df160_0  hf)
theorem fq_J1_charAt_3b067_0 {o : Int32 × ZS} {x0 : Nat} {x1 : Int32} {S : ZS}  (hf : f_J1_charAt_3b067_0 x0 x1 S = some o)   : EqT S o.2 := by
  have h_S : EqT S S := eqt_0
  unfold f_J1_charAt_3b067_0 at hf
  obtain ⟨-, hf⟩ := m_chkE hf
  obtain ⟨v1, e1, hf⟩ := m_bndE hf
  obtain ⟨o2, ho, hf⟩ := m_calE hf
  have h_o2 := eqt_t h_S (fq_J0_checkIndex_df160 ho)
  clear ho
  obtain ⟨-, hf⟩ := m_chkE hf
  obtain ⟨-, hf⟩ := m_chkE hf
  obtain ⟨v3, e2, hf⟩ := m_bndE hf
  obtain ⟨v4, e3, hf⟩ := m_bndE hf
  obtain ⟨v5, e4, hf⟩ := m_bndE hf
  obtain ⟨-, hf⟩ := m_chkE hf
  cases hf
  exact h_o2
theorem fq_J1_charAt_3b067 {o : Int32 × ZS} {x0 : Nat} {x1 : Int32} {S : ZS}  (hf : f_J1_charAt_3b067 x0 x1 S = some o)   : EqT S o.2 := by
  have h_S : EqT S S := eqt_0
  unfold f_J1_charAt_3b067 at hf
  exact eqt_t h_S (fq_J1_charAt_3b067_0  hf)
theorem fq_J0_charAt_5068e_0 {o : Int32 × ZS} {x0 : Nat} {x1 : Int32} {S : ZS}  (hf : f_J0_charAt_5068e_0 x0 x1 S = some o)   : EqT S o.2 := by
  have h_S : EqT S S := eqt_0
  unfold f_J0_charAt_5068e_0 at hf
  obtain ⟨-, hf⟩ := m_chkE hf
  obtain ⟨o1, ho, hf⟩ := m_calE hf
  have h_o1 := eqt_t h_S (fq_J0_isLatin1_aae02 ho)
  clear ho
  rcases m_ifE hf with ⟨-, hf⟩ | ⟨-, hf⟩
  ·
    cases hf
  ·
    obtain ⟨-, hf⟩ := m_chkE hf
    obtain ⟨o2, ho, hf⟩ := m_calE hf
    have h_o2 := eqt_t h_o1 (fq_J1_charAt_3b067 ho)
    clear ho
    obtain ⟨-, hf⟩ := m_chkE hf
    cases hf
    exact h_o2
theorem fq_J0_charAt_5068e {o : Int32 × ZS} {x0 : Nat} {x1 : Int32} {S : ZS}  (hf : f_J0_charAt_5068e x0 x1 S = some o)   : EqT S o.2 := by
  have h_S : EqT S S := eqt_0
  unfold f_J0_charAt_5068e at hf
  exact eqt_t h_S (fq_J0_charAt_5068e_0  hf)
theorem fq_X6_holds_17 {o : Int32 × ZS} {S : ZS}  (hf : f_X6_holds_17 S = some o)   : EqT S o.2 := by
  have h_S : EqT S S := eqt_0
  unfold f_X6_holds_17 at hf
  obtain ⟨-, hf⟩ := m_chkE hf
  cases hf
  exact h_S
theorem fq_X6_holds_21s {o : Int32 × ZS} {self21 : Nat → Nat → Int32 → Int32 → ZS → Option (Int32 × ZS)} {x0 : Nat} {x1 : Nat} {x2 : Int32} {x3 : Int32} {S : ZS} (hself21 : ∀ (z0 : Nat) (z1 : Nat) (z2 : Int32) (z3 : Int32) (S : ZS) (o : Int32 × ZS), self21 z0 z1 z2 z3 S = some o → EqT S o.2) (hf : f_X6_holds_21s self21 x0 x1 x2 x3 S = some o)   : EqT S o.2 := by
  have h_S : EqT S S := eqt_0
  unfold f_X6_holds_21s at hf
  obtain ⟨-, hf⟩ := m_chkE hf
  obtain ⟨o1, ho, hf⟩ := m_calE hf
  have h_o1 := eqt_t h_S (fq_J0_length_8abf5 ho)
  clear ho
  rcases m_ifE hf with ⟨-, hf⟩ | ⟨-, hf⟩
  ·
    obtain ⟨-, hf⟩ := m_chkE hf
    cases hf
    exact h_o1
  ·
    obtain ⟨q1, hf⟩ := m_chkE hf
    obtain ⟨b2, -, hf⟩ := m_calE hf
    obtain ⟨v3, e2, hf⟩ := m_bndE hf
    obtain ⟨q3, hf⟩ := m_chkE hf
    obtain ⟨-, hf⟩ := m_chkE hf
    obtain ⟨v4, e4, hf⟩ := m_bndE hf
    obtain ⟨-, hf⟩ := m_chkE hf
    obtain ⟨o5, ho, hf⟩ := m_calE hf
    have h_o5 := eqt_t h_o1 (fq_J0_charAt_5068e ho)
    clear ho
    rcases m_ifE hf with ⟨-, hf⟩ | ⟨-, hf⟩
    ·
      obtain ⟨v6, e5, hf⟩ := m_bndE hf
      exact eqt_t h_o5 (hself21 _ _ _ _ _ _ hf)
    ·
      obtain ⟨-, hf⟩ := m_chkE hf
      cases hf
      exact h_o5
theorem fq_X6_holds_21   (n : Nat) : ∀ (y0 : Nat) (y1 : Nat) (y2 : Int32) (y3 : Int32) (S : ZS) (o : Int32 × ZS), f_X6_holds_21  n y0 y1 y2 y3 S = some o → EqT S o.2 := by
  induction n with
  | zero => intro y0 y1 y2 y3 S o hf; cases hf
  | succ n ih => intro y0 y1 y2 y3 S o hf; exact fq_X6_holds_21s  ih hf
theorem fq_X6_holds_0 {o : Int32 × ZS} {x0 : Nat} {x1 : Nat} {x2 : Int32} {S : ZS}  (hf : f_X6_holds_0 x0 x1 x2 S = some o)   : EqT S o.2 := by
  have h_S : EqT S S := eqt_0
  unfold f_X6_holds_0 at hf
  rcases m_ifE hf with ⟨-, hf⟩ | ⟨-, hf⟩
  ·
    exact eqt_t h_S (fq_X6_holds_17  hf)
  ·
    obtain ⟨-, hf⟩ := m_chkE hf
    obtain ⟨o1, ho, hf⟩ := m_calE hf
    have h_o1 := eqt_t h_S (fq_J0_length_8abf5 ho)
    clear ho
    obtain ⟨v2, e1, hf⟩ := m_bndE hf
    obtain ⟨q2, hf⟩ := m_chkE hf
    rcases m_ifE hf with ⟨-, hf⟩ | ⟨-, hf⟩
    ·
      exact eqt_t h_o1 (fq_X6_holds_21  _ _ _ _ _ _ _ hf)
    ·
      exact eqt_t h_o1 (fq_X6_holds_17  hf)
theorem fq_X6_holds {o : Int32 × ZS} {x0 : Nat} {x1 : Nat} {x2 : Int32} {S : ZS}  (hf : f_X6_holds x0 x1 x2 S = some o)   : EqT S o.2 := by
  have h_S : EqT S S := eqt_0
  unfold f_X6_holds at hf
  exact eqt_t h_S (fq_X6_holds_0  hf)
theorem fq_X6_is_25 {o : Int32 × ZS} {t0 : Int32} {S : ZS}  (hf : f_X6_is_25 t0 S = some o)   : EqT S o.2 := by
  have h_S : EqT S S := eqt_0
  unfold f_X6_is_25 at hf
  obtain ⟨-, hf⟩ := m_chkE hf
  cases hf
  exact h_S
theorem fq_X6_is_24 {o : Int32 × ZS} {S : ZS}  (hf : f_X6_is_24 S = some o)   : EqT S o.2 := by
  have h_S : EqT S S := eqt_0
  unfold f_X6_is_24 at hf
  exact eqt_t h_S (fq_X6_is_25  hf)
theorem fq_X6_is_0 {o : Int32 × ZS} {x0 : Nat} {x1 : Nat} {S : ZS}  (hf : f_X6_is_0 x0 x1 S = some o)   : EqT S o.2 := by
  have h_S : EqT S S := eqt_0
  unfold f_X6_is_0 at hf
  obtain ⟨q1, hf⟩ := m_chkE hf
  obtain ⟨-, hf⟩ := m_chkE hf
  obtain ⟨o1, ho, hf⟩ := m_calE hf
  have h_o1 := eqt_t h_S (fq_J0_length_8abf5 ho)
  clear ho
  rcases m_ifE hf with ⟨-, hf⟩ | ⟨-, hf⟩
  ·
    obtain ⟨q2, hf⟩ := m_chkE hf
    obtain ⟨o2, ho, hf⟩ := m_calE hf
    have h_o2 := eqt_t h_o1 (fq_X6_holds ho)
    clear ho
    rcases m_ifE hf with ⟨-, hf⟩ | ⟨-, hf⟩
    ·
      exact eqt_t h_o2 (fq_X6_is_24  hf)
    ·
      exact eqt_t h_o2 (fq_X6_is_25  hf)
  ·
    exact eqt_t h_o1 (fq_X6_is_24  hf)
theorem fq_X6_is {o : Int32 × ZS} {x0 : Nat} {x1 : Nat} {S : ZS}  (hf : f_X6_is x0 x1 S = some o)   : EqT S o.2 := by
  have h_S : EqT S S := eqt_0
  unfold f_X6_is at hf
  exact eqt_t h_S (fq_X6_is_0  hf)
theorem fq_X11_resultSign_0 {o : Nat × ZS} {x0 : Int32} {S : ZS}  (hf : f_X11_resultSign_0 x0 S = some o)   : EqT S o.2 := by
  have h_S : EqT S S := eqt_0
  unfold f_X11_resultSign_0 at hf
  rcases m_ifE hf with ⟨-, hf⟩ | ⟨-, hf⟩
  ·
    cases hf
    exact h_S
  ·
    rcases m_ifE hf with ⟨-, hf⟩ | ⟨-, hf⟩
    ·
      cases hf
      exact h_S
    ·
      rcases m_ifE hf with ⟨-, hf⟩ | ⟨-, hf⟩
      ·
        cases hf
        exact h_S
      ·
        cases hf
        exact h_S
theorem fq_X11_resultSign {o : Nat × ZS} {x0 : Int32} {S : ZS}  (hf : f_X11_resultSign x0 S = some o)   : EqT S o.2 := by
  have h_S : EqT S S := eqt_0
  unfold f_X11_resultSign at hf
  exact eqt_t h_S (fq_X11_resultSign_0  hf)
theorem fq_X2_begin_0 {o : Int32 × ZS} {x0 : Nat} {x1 : Nat} {S : ZS}  (hf : f_X2_begin_0 x0 x1 S = some o)   : EqT S o.2 := by
  have h_S : EqT S S := eqt_0
  unfold f_X2_begin_0 at hf
  obtain ⟨q1, hf⟩ := m_chkE hf
  obtain ⟨S1, e2, hf⟩ := m_bndE hf
  have h_S1 := eqt_P h_S e2
  obtain ⟨q3, hf⟩ := m_chkE hf
  obtain ⟨b2, -, hf⟩ := m_calE hf
  obtain ⟨q4, hf⟩ := m_chkE hf
  obtain ⟨o3, ho, hf⟩ := m_calE hf
  have h_o3 := eqt_t h_S1 (fq_X1_wipe ho)
  clear ho
  obtain ⟨q5, hf⟩ := m_chkE hf
  obtain ⟨S4, e6, hf⟩ := m_bndE hf
  have h_S4 := eqt_I h_o3 e6
  obtain ⟨q7, hf⟩ := m_chkE hf
  obtain ⟨S5, e8, hf⟩ := m_bndE hf
  have h_S5 := eqt_I h_S4 e8
  cases hf
  exact h_S5
theorem fq_X2_begin {o : Int32 × ZS} {x0 : Nat} {x1 : Nat} {S : ZS}  (hf : f_X2_begin x0 x1 S = some o)   : EqT S o.2 := by
  have h_S : EqT S S := eqt_0
  unfold f_X2_begin at hf
  exact eqt_t h_S (fq_X2_begin_0  hf)
theorem fq_X2_fault_0 {o : Int32 × ZS} {x0 : Nat} {S : ZS}  (hf : f_X2_fault_0 x0 S = some o)   : EqT S o.2 := by
  have h_S : EqT S S := eqt_0
  unfold f_X2_fault_0 at hf
  obtain ⟨q1, hf⟩ := m_chkE hf
  cases hf
  exact h_S
theorem fq_X2_fault {o : Int32 × ZS} {x0 : Nat} {S : ZS}  (hf : f_X2_fault x0 S = some o)   : EqT S o.2 := by
  have h_S : EqT S S := eqt_0
  unfold f_X2_fault at hf
  exact eqt_t h_S (fq_X2_fault_0  hf)
theorem fq_X2_exchange_0 {o : Nat × ZS} {x0 : Nat} {x1 : Nat} {S : ZS}  (hf : f_X2_exchange_0 x0 x1 S = some o)   : EqT S o.2 := by
  have h_S : EqT S S := eqt_0
  unfold f_X2_exchange_0 at hf
  obtain ⟨q1, hf⟩ := m_chkE hf
  obtain ⟨b1, -, hf⟩ := m_calE hf
  obtain ⟨q2, hf⟩ := m_chkE hf
  obtain ⟨S2, e3, hf⟩ := m_bndE hf
  have h_S2 := eqt_P h_S e3
  cases hf
  exact h_S2
theorem fq_X2_exchange {o : Nat × ZS} {x0 : Nat} {x1 : Nat} {S : ZS}  (hf : f_X2_exchange x0 x1 S = some o)   : EqT S o.2 := by
  have h_S : EqT S S := eqt_0
  unfold f_X2_exchange at hf
  exact eqt_t h_S (fq_X2_exchange_0  hf)
theorem fq_X2_refuse_0 {o : Int32 × ZS} {x0 : Nat} {x1 : Int32} {x2 : Int32} {S : ZS}  (hf : f_X2_refuse_0 x0 x1 x2 S = some o)   : EqT S o.2 := by
  have h_S : EqT S S := eqt_0
  unfold f_X2_refuse_0 at hf
  obtain ⟨v1, e1, hf⟩ := m_bndE hf
  obtain ⟨v2, e2, hf⟩ := m_bndE hf
  obtain ⟨q3, hf⟩ := m_chkE hf
  obtain ⟨S3, e4, hf⟩ := m_bndE hf
  have h_S3 := eqt_I h_S e4
  obtain ⟨-, hf⟩ := m_chkE hf
  cases hf
  exact h_S3
theorem fq_X2_refuse {o : Int32 × ZS} {x0 : Nat} {x1 : Int32} {x2 : Int32} {S : ZS}  (hf : f_X2_refuse x0 x1 x2 S = some o)   : EqT S o.2 := by
  have h_S : EqT S S := eqt_0
  unfold f_X2_refuse at hf
  exact eqt_t h_S (fq_X2_refuse_0  hf)
theorem fq_X6_size_0 {o : Int32 × ZS} {x0 : Nat} {S : ZS}  (hf : f_X6_size_0 x0 S = some o)   : EqT S o.2 := by
  have h_S : EqT S S := eqt_0
  unfold f_X6_size_0 at hf
  obtain ⟨q1, hf⟩ := m_chkE hf
  cases hf
  exact h_S
theorem fq_X6_size {o : Int32 × ZS} {x0 : Nat} {S : ZS}  (hf : f_X6_size x0 S = some o)   : EqT S o.2 := by
  have h_S : EqT S S := eqt_0
  unfold f_X6_size at hf
  exact eqt_t h_S (fq_X6_size_0  hf)
theorem fq_X2_skipBlanks_59 {o : Int32 × ZS} {S : ZS}  (hf : f_X2_skipBlanks_59 S = some o)   : EqT S o.2 := by
  have h_S : EqT S S := eqt_0
  unfold f_X2_skipBlanks_59 at hf
  cases hf
  exact h_S
theorem fq_X2_skipBlanks_46 {o : Int32 × ZS} {self0 : Nat → ZS → Option (Int32 × ZS)} {x0 : Nat} {S : ZS} (hself0 : ∀ (z0 : Nat) (S : ZS) (o : Int32 × ZS), self0 z0 S = some o → EqT S o.2) (hf : f_X2_skipBlanks_46 self0 x0 S = some o)   : EqT S o.2 := by
  have h_S : EqT S S := eqt_0
  unfold f_X2_skipBlanks_46 at hf
  obtain ⟨q1, hf⟩ := m_chkE hf
  obtain ⟨v1, e2, hf⟩ := m_bndE hf
  obtain ⟨q3, hf⟩ := m_chkE hf
  obtain ⟨S2, e4, hf⟩ := m_bndE hf
  have h_S2 := eqt_I h_S e4
  exact eqt_t h_S2 (hself0 _ _ _ hf)
theorem fq_X2_skipBlanks_0s {o : Int32 × ZS} {self0 : Nat → ZS → Option (Int32 × ZS)} {x0 : Nat} {S : ZS} (hself0 : ∀ (z0 : Nat) (S : ZS) (o : Int32 × ZS), self0 z0 S = some o → EqT S o.2) (hf : f_X2_skipBlanks_0s self0 x0 S = some o)   : EqT S o.2 := by
  have h_S : EqT S S := eqt_0
  unfold f_X2_skipBlanks_0s at hf
  obtain ⟨q1, hf⟩ := m_chkE hf
  obtain ⟨q2, hf⟩ := m_chkE hf
  obtain ⟨b1, -, hf⟩ := m_calE hf
  obtain ⟨q3, hf⟩ := m_chkE hf
  obtain ⟨o2, ho, hf⟩ := m_calE hf
  have h_o2 := eqt_t h_S (fq_X6_size ho)
  clear ho
  rcases m_ifE hf with ⟨-, hf⟩ | ⟨-, hf⟩
  ·
    exact eqt_t h_o2 (fq_X2_skipBlanks_59  hf)
  ·
    obtain ⟨q4, hf⟩ := m_chkE hf
    obtain ⟨b3, -, hf⟩ := m_calE hf
    obtain ⟨q5, hf⟩ := m_chkE hf
    obtain ⟨q6, hf⟩ := m_chkE hf
    obtain ⟨o4, ho, hf⟩ := m_calE hf
    have h_o4 := eqt_t h_o2 (fq_X6_at ho)
    clear ho
    rcases m_ifE hf with ⟨-, hf⟩ | ⟨-, hf⟩
    ·
      exact eqt_t h_o4 (fq_X2_skipBlanks_46 hself0 hf)
    ·
      obtain ⟨q7, hf⟩ := m_chkE hf
      obtain ⟨b5, -, hf⟩ := m_calE hf
      obtain ⟨q8, hf⟩ := m_chkE hf
      obtain ⟨q9, hf⟩ := m_chkE hf
      obtain ⟨o6, ho, hf⟩ := m_calE hf
      have h_o6 := eqt_t h_o4 (fq_X6_at ho)
      clear ho
      rcases m_ifE hf with ⟨-, hf⟩ | ⟨-, hf⟩
      ·
        exact eqt_t h_o6 (fq_X2_skipBlanks_46 hself0 hf)
      ·
        exact eqt_t h_o6 (fq_X2_skipBlanks_59  hf)
theorem fq_X2_skipBlanks_0   (n : Nat) : ∀ (y0 : Nat) (S : ZS) (o : Int32 × ZS), f_X2_skipBlanks_0  n y0 S = some o → EqT S o.2 := by
  induction n with
  | zero => intro y0 S o hf; cases hf
  | succ n ih => intro y0 S o hf; exact fq_X2_skipBlanks_0s  ih hf
theorem fq_X2_skipBlanks {o : Int32 × ZS} {x0 : Nat} {S : ZS}  (hf : f_X2_skipBlanks x0 S = some o)   : EqT S o.2 := by
  have h_S : EqT S S := eqt_0
  unfold f_X2_skipBlanks at hf
  exact eqt_t h_S (fq_X2_skipBlanks_0  _ _ _ _ hf)
theorem fq_X11_isLetter_29 {o : Int32 × ZS} {t0 : Int32} {S : ZS}  (hf : f_X11_isLetter_29 t0 S = some o)   : EqT S o.2 := by
  have h_S : EqT S S := eqt_0
  unfold f_X11_isLetter_29 at hf
  obtain ⟨-, hf⟩ := m_chkE hf
  cases hf
  exact h_S
theorem fq_X11_isLetter_28 {o : Int32 × ZS} {S : ZS}  (hf : f_X11_isLetter_28 S = some o)   : EqT S o.2 := by
  have h_S : EqT S S := eqt_0
  unfold f_X11_isLetter_28 at hf
  exact eqt_t h_S (fq_X11_isLetter_29  hf)
theorem fq_X11_isLetter_24 {o : Int32 × ZS} {S : ZS}  (hf : f_X11_isLetter_24 S = some o)   : EqT S o.2 := by
  have h_S : EqT S S := eqt_0
  unfold f_X11_isLetter_24 at hf
  exact eqt_t h_S (fq_X11_isLetter_29  hf)
theorem fq_X11_isLetter_12 {o : Int32 × ZS} {x0 : Int32} {S : ZS}  (hf : f_X11_isLetter_12 x0 S = some o)   : EqT S o.2 := by
  have h_S : EqT S S := eqt_0
  unfold f_X11_isLetter_12 at hf
  rcases m_ifE hf with ⟨-, hf⟩ | ⟨-, hf⟩
  ·
    exact eqt_t h_S (fq_X11_isLetter_28  hf)
  ·
    rcases m_ifE hf with ⟨-, hf⟩ | ⟨-, hf⟩
    ·
      exact eqt_t h_S (fq_X11_isLetter_28  hf)
    ·
      exact eqt_t h_S (fq_X11_isLetter_24  hf)
theorem fq_X11_isLetter_0 {o : Int32 × ZS} {x0 : Int32} {S : ZS}  (hf : f_X11_isLetter_0 x0 S = some o)   : EqT S o.2 := by
  have h_S : EqT S S := eqt_0
  unfold f_X11_isLetter_0 at hf
  rcases m_ifE hf with ⟨-, hf⟩ | ⟨-, hf⟩
  ·
    exact eqt_t h_S (fq_X11_isLetter_12  hf)
  ·
    rcases m_ifE hf with ⟨-, hf⟩ | ⟨-, hf⟩
    ·
      exact eqt_t h_S (fq_X11_isLetter_24  hf)
    ·
      exact eqt_t h_S (fq_X11_isLetter_12  hf)
theorem fq_X11_isLetter {o : Int32 × ZS} {x0 : Int32} {S : ZS}  (hf : f_X11_isLetter x0 S = some o)   : EqT S o.2 := by
  have h_S : EqT S S := eqt_0
  unfold f_X11_isLetter at hf
  exact eqt_t h_S (fq_X11_isLetter_0  hf)
theorem fq_X11_isDigit_17 {o : Int32 × ZS} {t0 : Int32} {S : ZS}  (hf : f_X11_isDigit_17 t0 S = some o)   : EqT S o.2 := by
  have h_S : EqT S S := eqt_0
  unfold f_X11_isDigit_17 at hf
  obtain ⟨-, hf⟩ := m_chkE hf
  cases hf
  exact h_S
theorem fq_X11_isDigit_16 {o : Int32 × ZS} {S : ZS}  (hf : f_X11_isDigit_16 S = some o)   : EqT S o.2 := by
  have h_S : EqT S S := eqt_0
  unfold f_X11_isDigit_16 at hf
  exact eqt_t h_S (fq_X11_isDigit_17  hf)
theorem fq_X11_isDigit_0 {o : Int32 × ZS} {x0 : Int32} {S : ZS}  (hf : f_X11_isDigit_0 x0 S = some o)   : EqT S o.2 := by
  have h_S : EqT S S := eqt_0
  unfold f_X11_isDigit_0 at hf
  rcases m_ifE hf with ⟨-, hf⟩ | ⟨-, hf⟩
  ·
    exact eqt_t h_S (fq_X11_isDigit_16  hf)
  ·
    rcases m_ifE hf with ⟨-, hf⟩ | ⟨-, hf⟩
    ·
      exact eqt_t h_S (fq_X11_isDigit_16  hf)
    ·
      exact eqt_t h_S (fq_X11_isDigit_17  hf)
theorem fq_X11_isDigit {o : Int32 × ZS} {x0 : Int32} {S : ZS}  (hf : f_X11_isDigit x0 S = some o)   : EqT S o.2 := by
  have h_S : EqT S S := eqt_0
  unfold f_X11_isDigit at hf
  exact eqt_t h_S (fq_X11_isDigit_0  hf)
theorem fq_X5_skip_0 {o : Int32 × ZS} {x0 : Nat} {x1 : Int32} {S : ZS}  (hf : f_X5_skip_0 x0 x1 S = some o)   : EqT S o.2 := by
  have h_S : EqT S S := eqt_0
  unfold f_X5_skip_0 at hf
  obtain ⟨q1, hf⟩ := m_chkE hf
  obtain ⟨b1, -, hf⟩ := m_calE hf
  obtain ⟨q2, hf⟩ := m_chkE hf
  obtain ⟨q3, hf⟩ := m_chkE hf
  obtain ⟨o2, ho, hf⟩ := m_calE hf
  have h_o2 := eqt_t h_S (fq_X6_at ho)
  clear ho
  rcases m_ifE hf with ⟨-, hf⟩ | ⟨-, hf⟩
  ·
    obtain ⟨q4, hf⟩ := m_chkE hf
    obtain ⟨v3, e5, hf⟩ := m_bndE hf
    obtain ⟨q6, hf⟩ := m_chkE hf
    obtain ⟨S4, e7, hf⟩ := m_bndE hf
    have h_S4 := eqt_I h_o2 e7
    obtain ⟨-, hf⟩ := m_chkE hf
    cases hf
    exact h_S4
  ·
    obtain ⟨-, hf⟩ := m_chkE hf
    cases hf
    exact h_o2
theorem fq_X5_skip {o : Int32 × ZS} {x0 : Nat} {x1 : Int32} {S : ZS}  (hf : f_X5_skip x0 x1 S = some o)   : EqT S o.2 := by
  have h_S : EqT S S := eqt_0
  unfold f_X5_skip at hf
  exact eqt_t h_S (fq_X5_skip_0  hf)
theorem fq_X11_isRank_17 {o : Int32 × ZS} {t0 : Int32} {S : ZS}  (hf : f_X11_isRank_17 t0 S = some o)   : EqT S o.2 := by
  have h_S : EqT S S := eqt_0
  unfold f_X11_isRank_17 at hf
  obtain ⟨-, hf⟩ := m_chkE hf
  cases hf
  exact h_S
theorem fq_X11_isRank_16 {o : Int32 × ZS} {S : ZS}  (hf : f_X11_isRank_16 S = some o)   : EqT S o.2 := by
  have h_S : EqT S S := eqt_0
  unfold f_X11_isRank_16 at hf
  exact eqt_t h_S (fq_X11_isRank_17  hf)
theorem fq_X11_isRank_0 {o : Int32 × ZS} {x0 : Int32} {S : ZS}  (hf : f_X11_isRank_0 x0 S = some o)   : EqT S o.2 := by
  have h_S : EqT S S := eqt_0
  unfold f_X11_isRank_0 at hf
  rcases m_ifE hf with ⟨-, hf⟩ | ⟨-, hf⟩
  ·
    exact eqt_t h_S (fq_X11_isRank_16  hf)
  ·
    rcases m_ifE hf with ⟨-, hf⟩ | ⟨-, hf⟩
    ·
      exact eqt_t h_S (fq_X11_isRank_16  hf)
    ·
      exact eqt_t h_S (fq_X11_isRank_17  hf)
theorem fq_X11_isRank {o : Int32 × ZS} {x0 : Int32} {S : ZS}  (hf : f_X11_isRank x0 S = some o)   : EqT S o.2 := by
  have h_S : EqT S S := eqt_0
  unfold f_X11_isRank at hf
  exact eqt_t h_S (fq_X11_isRank_0  hf)
theorem fq_J1_canEncode_9a6ad_16 {o : Int32 × ZS} {t0 : Int32} {S : ZS}  (hf : f_J1_canEncode_9a6ad_16 t0 S = some o)   : EqT S o.2 := by
  have h_S : EqT S S := eqt_0
  unfold f_J1_canEncode_9a6ad_16 at hf
  obtain ⟨-, hf⟩ := m_chkE hf
  cases hf
  exact h_S
theorem fq_J1_canEncode_9a6ad_15 {o : Int32 × ZS} {S : ZS}  (hf : f_J1_canEncode_9a6ad_15 S = some o)   : EqT S o.2 := by
  have h_S : EqT S S := eqt_0
  unfold f_J1_canEncode_9a6ad_15 at hf
  exact eqt_t h_S (fq_J1_canEncode_9a6ad_16  hf)
theorem fq_J1_canEncode_9a6ad_0 {o : Int32 × ZS} {x0 : Int32} {S : ZS}  (hf : f_J1_canEncode_9a6ad_0 x0 S = some o)   : EqT S o.2 := by
  have h_S : EqT S S := eqt_0
  unfold f_J1_canEncode_9a6ad_0 at hf
  rcases m_ifE hf with ⟨-, hf⟩ | ⟨-, hf⟩
  ·
    exact eqt_t h_S (fq_J1_canEncode_9a6ad_15  hf)
  ·
    rcases m_ifE hf with ⟨-, hf⟩ | ⟨-, hf⟩
    ·
      exact eqt_t h_S (fq_J1_canEncode_9a6ad_15  hf)
    ·
      exact eqt_t h_S (fq_J1_canEncode_9a6ad_16  hf)
theorem fq_J1_canEncode_9a6ad {o : Int32 × ZS} {x0 : Int32} {S : ZS}  (hf : f_J1_canEncode_9a6ad x0 S = some o)   : EqT S o.2 := by
  have h_S : EqT S S := eqt_0
  unfold f_J1_canEncode_9a6ad at hf
  exact eqt_t h_S (fq_J1_canEncode_9a6ad_0  hf)
theorem fq_J1_indexOfChar_4cfef_7s {o : Int32 × ZS} {self7 : Nat → Int32 → Int32 → Int32 → ZS → Option (Int32 × ZS)} {x0 : Nat} {x3 : Int32} {x4 : Int32} {x5 : Int32} {S : ZS} (hself7 : ∀ (z0 : Nat) (z1 : Int32) (z2 : Int32) (z3 : Int32) (S : ZS) (o : Int32 × ZS), self7 z0 z1 z2 z3 S = some o → EqT S o.2) (hf : f_J1_indexOfChar_4cfef_7s self7 x0 x3 x4 x5 S = some o)   : EqT S o.2 := by
  have h_S : EqT S S := eqt_0
  unfold f_J1_indexOfChar_4cfef_7s at hf
  rcases m_ifE hf with ⟨-, hf⟩ | ⟨-, hf⟩
  ·
    cases hf
    exact h_S
  ·
    obtain ⟨-, hf⟩ := m_chkE hf
    obtain ⟨-, hf⟩ := m_chkE hf
    obtain ⟨v1, e1, hf⟩ := m_bndE hf
    rcases m_ifE hf with ⟨-, hf⟩ | ⟨-, hf⟩
    ·
      cases hf
      exact h_S
    ·
      obtain ⟨v2, e2, hf⟩ := m_bndE hf
      exact eqt_t h_S (hself7 _ _ _ _ _ _ hf)
theorem fq_J1_indexOfChar_4cfef_7   (n : Nat) : ∀ (y0 : Nat) (y1 : Int32) (y2 : Int32) (y3 : Int32) (S : ZS) (o : Int32 × ZS), f_J1_indexOfChar_4cfef_7  n y0 y1 y2 y3 S = some o → EqT S o.2 := by
  induction n with
  | zero => intro y0 y1 y2 y3 S o hf; cases hf
  | succ n ih => intro y0 y1 y2 y3 S o hf; exact fq_J1_indexOfChar_4cfef_7s  ih hf
theorem fq_J1_indexOfChar_4cfef_0 {o : Int32 × ZS} {x0 : Nat} {x1 : Int32} {x2 : Int32} {x3 : Int32} {S : ZS}  (hf : f_J1_indexOfChar_4cfef_0 x0 x1 x2 x3 S = some o)   : EqT S o.2 := by
  have h_S : EqT S S := eqt_0
  unfold f_J1_indexOfChar_4cfef_0 at hf
  obtain ⟨v1, e1, hf⟩ := m_bndE hf
  exact eqt_t h_S (fq_J1_indexOfChar_4cfef_7  _ _ _ _ _ _ _ hf)
theorem fq_J1_indexOfChar_4cfef {o : Int32 × ZS} {x0 : Nat} {x1 : Int32} {x2 : Int32} {x3 : Int32} {S : ZS}  (hf : f_J1_indexOfChar_4cfef x0 x1 x2 x3 S = some o)   : EqT S o.2 := by
  have h_S : EqT S S := eqt_0
  unfold f_J1_indexOfChar_4cfef at hf
  exact eqt_t h_S (fq_J1_indexOfChar_4cfef_0  hf)
theorem fq_J1_indexOf_4cfef_0 {o : Int32 × ZS} {x0 : Nat} {x1 : Int32} {x2 : Int32} {x3 : Int32} {S : ZS}  (hf : f_J1_indexOf_4cfef_0 x0 x1 x2 x3 S = some o)   : EqT S o.2 := by
  have h_S : EqT S S := eqt_0
  unfold f_J1_indexOf_4cfef_0 at hf
  obtain ⟨o1, ho, hf⟩ := m_calE hf
  have h_o1 := eqt_t h_S (fq_J1_canEncode_9a6ad ho)
  clear ho
  rcases m_ifE hf with ⟨-, hf⟩ | ⟨-, hf⟩
  ·
    cases hf
    exact h_o1
  ·
    obtain ⟨v2, e1, hf⟩ := m_bndE hf
    obtain ⟨-, hf⟩ := m_chkE hf
    obtain ⟨v3, e2, hf⟩ := m_bndE hf
    obtain ⟨v4, e3, hf⟩ := m_bndE hf
    rcases m_ifE hf with ⟨-, hf⟩ | ⟨-, hf⟩
    ·
      obtain ⟨o5, ho, hf⟩ := m_calE hf
      have h_o5 := eqt_t h_o1 (fq_J1_indexOfChar_4cfef ho)
      clear ho
      cases hf
      exact h_o5
    ·
      cases hf
      exact h_o1
theorem fq_J1_indexOf_4cfef {o : Int32 × ZS} {x0 : Nat} {x1 : Int32} {x2 : Int32} {x3 : Int32} {S : ZS}  (hf : f_J1_indexOf_4cfef x0 x1 x2 x3 S = some o)   : EqT S o.2 := by
  have h_S : EqT S S := eqt_0
  unfold f_J1_indexOf_4cfef at hf
  exact eqt_t h_S (fq_J1_indexOf_4cfef_0  hf)
theorem fq_J0_indexOf_7cf53_0 {o : Int32 × ZS} {x0 : Nat} {x1 : Int32} {x2 : Int32} {S : ZS}  (hf : f_J0_indexOf_7cf53_0 x0 x1 x2 S = some o)   : EqT S o.2 := by
  have h_S : EqT S S := eqt_0
  unfold f_J0_indexOf_7cf53_0 at hf
  obtain ⟨-, hf⟩ := m_chkE hf
  obtain ⟨o1, ho, hf⟩ := m_calE hf
  have h_o1 := eqt_t h_S (fq_J0_isLatin1_aae02 ho)
  clear ho
  rcases m_ifE hf with ⟨-, hf⟩ | ⟨-, hf⟩
  ·
    cases hf
  ·
    obtain ⟨-, hf⟩ := m_chkE hf
    obtain ⟨-, hf⟩ := m_chkE hf
    obtain ⟨o2, ho, hf⟩ := m_calE hf
    have h_o2 := eqt_t h_o1 (fq_J0_length_8abf5 ho)
    clear ho
    obtain ⟨o3, ho, hf⟩ := m_calE hf
    have h_o3 := eqt_t h_o2 (fq_J1_indexOf_4cfef ho)
    clear ho
    cases hf
    exact h_o3
theorem fq_J0_indexOf_7cf53 {o : Int32 × ZS} {x0 : Nat} {x1 : Int32} {x2 : Int32} {S : ZS}  (hf : f_J0_indexOf_7cf53 x0 x1 x2 S = some o)   : EqT S o.2 := by
  have h_S : EqT S S := eqt_0
  unfold f_J0_indexOf_7cf53 at hf
  exact eqt_t h_S (fq_J0_indexOf_7cf53_0  hf)
theorem fq_J0_indexOf_0f7a4_0 {o : Int32 × ZS} {x0 : Nat} {x1 : Int32} {S : ZS}  (hf : f_J0_indexOf_0f7a4_0 x0 x1 S = some o)   : EqT S o.2 := by
  have h_S : EqT S S := eqt_0
  unfold f_J0_indexOf_0f7a4_0 at hf
  obtain ⟨-, hf⟩ := m_chkE hf
  obtain ⟨o1, ho, hf⟩ := m_calE hf
  have h_o1 := eqt_t h_S (fq_J0_indexOf_7cf53 ho)
  clear ho
  cases hf
  exact h_o1
theorem fq_J0_indexOf_0f7a4 {o : Int32 × ZS} {x0 : Nat} {x1 : Int32} {S : ZS}  (hf : f_J0_indexOf_0f7a4 x0 x1 S = some o)   : EqT S o.2 := by
  have h_S : EqT S S := eqt_0
  unfold f_J0_indexOf_0f7a4 at hf
  exact eqt_t h_S (fq_J0_indexOf_0f7a4_0  hf)
theorem fq_X5_readRank_136 {o : Int32 × ZS} {t0 : Int32} {S : ZS}  (hf : f_X5_readRank_136 t0 S = some o)   : EqT S o.2 := by
  have h_S : EqT S S := eqt_0
  unfold f_X5_readRank_136 at hf
  obtain ⟨-, hf⟩ := m_chkE hf
  cases hf
  exact h_S
theorem fq_X5_readRank_105 {o : Int32 × ZS} {self5 : Nat → Nat → Int32 → Int32 → Int32 → ZS → Option (Int32 × ZS)} {x0 : Nat} {x1 : Nat} {x2 : Int32} {x6 : Int32} {t0 : Int32} {t1 : Int32} {S : ZS} (hself5 : ∀ (z0 : Nat) (z1 : Nat) (z2 : Int32) (z3 : Int32) (z4 : Int32) (S : ZS) (o : Int32 × ZS), self5 z0 z1 z2 z3 z4 S = some o → EqT S o.2) (hf : f_X5_readRank_105 self5 x0 x1 x2 x6 t0 t1 S = some o)   : EqT S o.2 := by
  have h_S : EqT S S := eqt_0
  unfold f_X5_readRank_105 at hf
  obtain ⟨v1, e1, hf⟩ := m_bndE hf
  obtain ⟨q2, hf⟩ := m_chkE hf
  obtain ⟨v2, e3, hf⟩ := m_bndE hf
  obtain ⟨q4, hf⟩ := m_chkE hf
  obtain ⟨S3, e5, hf⟩ := m_bndE hf
  have h_S3 := eqt_I h_S e5
  exact eqt_t h_S3 (hself5 _ _ _ _ _ _ _ hf)
theorem fq_X5_readRank_89 {o : Int32 × ZS} {self5 : Nat → Nat → Int32 → Int32 → Int32 → ZS → Option (Int32 × ZS)} {x0 : Nat} {x1 : Nat} {x2 : Int32} {x4 : Int32} {x5 : Int32} {x6 : Int32} {S : ZS} (hself5 : ∀ (z0 : Nat) (z1 : Nat) (z2 : Int32) (z3 : Int32) (z4 : Int32) (S : ZS) (o : Int32 × ZS), self5 z0 z1 z2 z3 z4 S = some o → EqT S o.2) (hf : f_X5_readRank_89 self5 x0 x1 x2 x4 x5 x6 S = some o)   : EqT S o.2 := by
  have h_S : EqT S S := eqt_0
  unfold f_X5_readRank_89 at hf
  rcases m_ifE hf with ⟨-, hf⟩ | ⟨-, hf⟩
  ·
    exact eqt_t h_S (fq_X5_readRank_105 hself5 hf)
  ·
    obtain ⟨v1, e1, hf⟩ := m_bndE hf
    exact eqt_t h_S (fq_X5_readRank_105 hself5 hf)
theorem fq_X5_readRank_74 {o : Int32 × ZS} {self5 : Nat → Nat → Int32 → Int32 → Int32 → ZS → Option (Int32 × ZS)} {x0 : Nat} {x1 : Nat} {x2 : Int32} {x4 : Int32} {x5 : Int32} {x6 : Int32} {x7 : Int32} {S : ZS} (hself5 : ∀ (z0 : Nat) (z1 : Nat) (z2 : Int32) (z3 : Int32) (z4 : Int32) (S : ZS) (o : Int32 × ZS), self5 z0 z1 z2 z3 z4 S = some o → EqT S o.2) (hf : f_X5_readRank_74 self5 x0 x1 x2 x4 x5 x6 x7 S = some o)   : EqT S o.2 := by
  have h_S : EqT S S := eqt_0
  unfold f_X5_readRank_74 at hf
  rcases m_ifE hf with ⟨-, hf⟩ | ⟨-, hf⟩
  ·
    obtain ⟨v1, e1, hf⟩ := m_bndE hf
    obtain ⟨q2, hf⟩ := m_chkE hf
    obtain ⟨o2, ho, hf⟩ := m_calE hf
    have h_o2 := eqt_t h_S (fq_X0_put ho)
    clear ho
    exact eqt_t h_o2 (fq_X5_readRank_89 hself5 hf)
  ·
    exact eqt_t h_S (fq_X5_readRank_89 hself5 hf)
theorem fq_X5_readRank_72 {o : Int32 × ZS} {S : ZS}  (hf : f_X5_readRank_72 S = some o)   : EqT S o.2 := by
  have h_S : EqT S S := eqt_0
  unfold f_X5_readRank_72 at hf
  obtain ⟨-, hf⟩ := m_chkE hf
  cases hf
  exact h_S
theorem fq_X5_readRank_53 {o : Int32 × ZS} {self5 : Nat → Nat → Int32 → Int32 → Int32 → ZS → Option (Int32 × ZS)} {x0 : Nat} {x1 : Nat} {x2 : Int32} {x3 : Int32} {x4 : Int32} {x5 : Int32} {x6 : Int32} {t0 : Int32} {S : ZS} (hself5 : ∀ (z0 : Nat) (z1 : Nat) (z2 : Int32) (z3 : Int32) (z4 : Int32) (S : ZS) (o : Int32 × ZS), self5 z0 z1 z2 z3 z4 S = some o → EqT S o.2) (hf : f_X5_readRank_53 self5 x0 x1 x2 x3 x4 x5 x6 t0 S = some o)   : EqT S o.2 := by
  have h_S : EqT S S := eqt_0
  unfold f_X5_readRank_53 at hf
  rcases m_ifE hf with ⟨-, hf⟩ | ⟨-, hf⟩
  ·
    rcases m_ifE hf with ⟨-, hf⟩ | ⟨-, hf⟩
    ·
      exact eqt_t h_S (fq_X5_readRank_72  hf)
    ·
      exact eqt_t h_S (fq_X5_readRank_74 hself5 hf)
  ·
    rcases m_ifE hf with ⟨-, hf⟩ | ⟨-, hf⟩
    ·
      exact eqt_t h_S (fq_X5_readRank_74 hself5 hf)
    ·
      exact eqt_t h_S (fq_X5_readRank_72  hf)
theorem fq_X5_readRank_5s {o : Int32 × ZS} {self5 : Nat → Nat → Int32 → Int32 → Int32 → ZS → Option (Int32 × ZS)} {x0 : Nat} {x1 : Nat} {x2 : Int32} {x3 : Int32} {x4 : Int32} {S : ZS} (hself5 : ∀ (z0 : Nat) (z1 : Nat) (z2 : Int32) (z3 : Int32) (z4 : Int32) (S : ZS) (o : Int32 × ZS), self5 z0 z1 z2 z3 z4 S = some o → EqT S o.2) (hf : f_X5_readRank_5s self5 x0 x1 x2 x3 x4 S = some o)   : EqT S o.2 := by
  have h_S : EqT S S := eqt_0
  unfold f_X5_readRank_5s at hf
  rcases m_ifE hf with ⟨-, hf⟩ | ⟨-, hf⟩
  ·
    rcases m_ifE hf with ⟨-, hf⟩ | ⟨-, hf⟩
    ·
      exact eqt_t h_S (fq_X5_readRank_136  hf)
    ·
      exact eqt_t h_S (fq_X5_readRank_136  hf)
  ·
    obtain ⟨q1, hf⟩ := m_chkE hf
    obtain ⟨b1, -, hf⟩ := m_calE hf
    obtain ⟨q2, hf⟩ := m_chkE hf
    obtain ⟨q3, hf⟩ := m_chkE hf
    obtain ⟨o2, ho, hf⟩ := m_calE hf
    have h_o2 := eqt_t h_S (fq_X6_at ho)
    clear ho
    obtain ⟨o3, ho, hf⟩ := m_calE hf
    have h_o3 := eqt_t h_o2 (fq_X11_isRank ho)
    clear ho
    obtain ⟨o4, ho, hf⟩ := m_calE hf
    have h_o4 := eqt_t h_o3 (fq_X11_isLetter ho)
    clear ho
    rcases m_ifE hf with ⟨-, hf⟩ | ⟨-, hf⟩
    ·
      exact eqt_t h_o4 (fq_X5_readRank_53 hself5 hf)
    ·
      obtain ⟨-, hf⟩ := m_chkE hf
      obtain ⟨o5, ho, hf⟩ := m_calE hf
      have h_o5 := eqt_t h_o4 (fq_J0_indexOf_0f7a4 ho)
      clear ho
      obtain ⟨v6, e4, hf⟩ := m_bndE hf
      exact eqt_t h_o5 (fq_X5_readRank_53 hself5 hf)
theorem fq_X5_readRank_5   (n : Nat) : ∀ (y0 : Nat) (y1 : Nat) (y2 : Int32) (y3 : Int32) (y4 : Int32) (S : ZS) (o : Int32 × ZS), f_X5_readRank_5  n y0 y1 y2 y3 y4 S = some o → EqT S o.2 := by
  induction n with
  | zero => intro y0 y1 y2 y3 y4 S o hf; cases hf
  | succ n ih => intro y0 y1 y2 y3 y4 S o hf; exact fq_X5_readRank_5s  ih hf
theorem fq_X5_readRank_0 {o : Int32 × ZS} {x0 : Nat} {x1 : Nat} {x2 : Int32} {S : ZS}  (hf : f_X5_readRank_0 x0 x1 x2 S = some o)   : EqT S o.2 := by
  have h_S : EqT S S := eqt_0
  unfold f_X5_readRank_0 at hf
  exact eqt_t h_S (fq_X5_readRank_5  _ _ _ _ _ _ _ _ hf)
theorem fq_X5_readRank {o : Int32 × ZS} {x0 : Nat} {x1 : Nat} {x2 : Int32} {S : ZS}  (hf : f_X5_readRank x0 x1 x2 S = some o)   : EqT S o.2 := by
  have h_S : EqT S S := eqt_0
  unfold f_X5_readRank at hf
  exact eqt_t h_S (fq_X5_readRank_0  hf)
theorem fq_X5_readMen_34 {o : Int32 × ZS} {S : ZS}  (hf : f_X5_readMen_34 S = some o)   : EqT S o.2 := by
  have h_S : EqT S S := eqt_0
  unfold f_X5_readMen_34 at hf
  obtain ⟨-, hf⟩ := m_chkE hf
  cases hf
  exact h_S
theorem fq_X5_readMen_22 {o : Int32 × ZS} {self3 : Nat → Nat → Int32 → ZS → Option (Int32 × ZS)} {x0 : Nat} {x1 : Nat} {x2 : Int32} {S : ZS} (hself3 : ∀ (z0 : Nat) (z1 : Nat) (z2 : Int32) (S : ZS) (o : Int32 × ZS), self3 z0 z1 z2 S = some o → EqT S o.2) (hf : f_X5_readMen_22 self3 x0 x1 x2 S = some o)   : EqT S o.2 := by
  have h_S : EqT S S := eqt_0
  unfold f_X5_readMen_22 at hf
  obtain ⟨v1, e1, hf⟩ := m_bndE hf
  obtain ⟨q2, hf⟩ := m_chkE hf
  obtain ⟨o2, ho, hf⟩ := m_calE hf
  have h_o2 := eqt_t h_S (fq_X5_readRank ho)
  clear ho
  rcases m_ifE hf with ⟨-, hf⟩ | ⟨-, hf⟩
  ·
    exact eqt_t h_o2 (fq_X5_readMen_34  hf)
  ·
    obtain ⟨v3, e3, hf⟩ := m_bndE hf
    exact eqt_t h_o2 (hself3 _ _ _ _ _ hf)
theorem fq_X5_readMen_3s {o : Int32 × ZS} {self3 : Nat → Nat → Int32 → ZS → Option (Int32 × ZS)} {x0 : Nat} {x1 : Nat} {x2 : Int32} {S : ZS} (hself3 : ∀ (z0 : Nat) (z1 : Nat) (z2 : Int32) (S : ZS) (o : Int32 × ZS), self3 z0 z1 z2 S = some o → EqT S o.2) (hf : f_X5_readMen_3s self3 x0 x1 x2 S = some o)   : EqT S o.2 := by
  have h_S : EqT S S := eqt_0
  unfold f_X5_readMen_3s at hf
  rcases m_ifE hf with ⟨-, hf⟩ | ⟨-, hf⟩
  ·
    obtain ⟨-, hf⟩ := m_chkE hf
    cases hf
    exact h_S
  ·
    rcases m_ifE hf with ⟨-, hf⟩ | ⟨-, hf⟩
    ·
      exact eqt_t h_S (fq_X5_readMen_22 hself3 hf)
    ·
      obtain ⟨q1, hf⟩ := m_chkE hf
      obtain ⟨o1, ho, hf⟩ := m_calE hf
      have h_o1 := eqt_t h_S (fq_X5_skip ho)
      clear ho
      rcases m_ifE hf with ⟨-, hf⟩ | ⟨-, hf⟩
      ·
        exact eqt_t h_o1 (fq_X5_readMen_34  hf)
      ·
        exact eqt_t h_o1 (fq_X5_readMen_22 hself3 hf)
theorem fq_X5_readMen_3   (n : Nat) : ∀ (y0 : Nat) (y1 : Nat) (y2 : Int32) (S : ZS) (o : Int32 × ZS), f_X5_readMen_3  n y0 y1 y2 S = some o → EqT S o.2 := by
  induction n with
  | zero => intro y0 y1 y2 S o hf; cases hf
  | succ n ih => intro y0 y1 y2 S o hf; exact fq_X5_readMen_3s  ih hf
theorem fq_X5_readMen_0 {o : Int32 × ZS} {x0 : Nat} {x1 : Nat} {S : ZS}  (hf : f_X5_readMen_0 x0 x1 S = some o)   : EqT S o.2 := by
  have h_S : EqT S S := eqt_0
  unfold f_X5_readMen_0 at hf
  exact eqt_t h_S (fq_X5_readMen_3  _ _ _ _ _ _ hf)
theorem fq_X5_readMen {o : Int32 × ZS} {x0 : Nat} {x1 : Nat} {S : ZS}  (hf : f_X5_readMen x0 x1 S = some o)   : EqT S o.2 := by
  have h_S : EqT S S := eqt_0
  unfold f_X5_readMen at hf
  exact eqt_t h_S (fq_X5_readMen_0  hf)
theorem fq_X5_readSide_48 {o : Int32 × ZS} {t0 : Int32} {S : ZS}  (hf : f_X5_readSide_48 t0 S = some o)   : EqT S o.2 := by
  have h_S : EqT S S := eqt_0
  unfold f_X5_readSide_48 at hf
  obtain ⟨-, hf⟩ := m_chkE hf
  cases hf
  exact h_S
theorem fq_X5_readSide_43 {o : Int32 × ZS} {S : ZS}  (hf : f_X5_readSide_43 S = some o)   : EqT S o.2 := by
  have h_S : EqT S S := eqt_0
  unfold f_X5_readSide_43 at hf
  exact eqt_t h_S (fq_X5_readSide_48  hf)
theorem fq_X5_readSide_22 {o : Int32 × ZS} {x0 : Nat} {t0 : Int32} {t1 : Nat} {S : ZS}  (hf : f_X5_readSide_22 x0 t0 t1 S = some o)   : EqT S o.2 := by
  have h_S : EqT S S := eqt_0
  unfold f_X5_readSide_22 at hf
  obtain ⟨q1, hf⟩ := m_chkE hf
  obtain ⟨S1, e2, hf⟩ := m_bndE hf
  have h_S1 := eqt_I h_S e2
  obtain ⟨q3, hf⟩ := m_chkE hf
  obtain ⟨o2, ho, hf⟩ := m_calE hf
  have h_o2 := eqt_t h_S1 (fq_X5_skip ho)
  clear ho
  rcases m_ifE hf with ⟨-, hf⟩ | ⟨-, hf⟩
  ·
    obtain ⟨q4, hf⟩ := m_chkE hf
    obtain ⟨o3, ho, hf⟩ := m_calE hf
    have h_o3 := eqt_t h_o2 (fq_X5_skip ho)
    clear ho
    rcases m_ifE hf with ⟨-, hf⟩ | ⟨-, hf⟩
    ·
      exact eqt_t h_o3 (fq_X5_readSide_48  hf)
    ·
      exact eqt_t h_o3 (fq_X5_readSide_43  hf)
  ·
    exact eqt_t h_o2 (fq_X5_readSide_43  hf)
theorem fq_X5_readSide_0 {o : Int32 × ZS} {x0 : Nat} {x1 : Nat} {S : ZS}  (hf : f_X5_readSide_0 x0 x1 S = some o)   : EqT S o.2 := by
  have h_S : EqT S S := eqt_0
  unfold f_X5_readSide_0 at hf
  obtain ⟨q1, hf⟩ := m_chkE hf
  obtain ⟨b1, -, hf⟩ := m_calE hf
  obtain ⟨q2, hf⟩ := m_chkE hf
  obtain ⟨q3, hf⟩ := m_chkE hf
  obtain ⟨o2, ho, hf⟩ := m_calE hf
  have h_o2 := eqt_t h_S (fq_X6_at ho)
  clear ho
  rcases m_ifE hf with ⟨-, hf⟩ | ⟨-, hf⟩
  ·
    exact eqt_t h_o2 (fq_X5_readSide_22  hf)
  ·
    exact eqt_t h_o2 (fq_X5_readSide_22  hf)
theorem fq_X5_readSide {o : Int32 × ZS} {x0 : Nat} {x1 : Nat} {S : ZS}  (hf : f_X5_readSide x0 x1 S = some o)   : EqT S o.2 := by
  have h_S : EqT S S := eqt_0
  unfold f_X5_readSide at hf
  exact eqt_t h_S (fq_X5_readSide_0  hf)
theorem fq_X5_readRights_65 {o : Int32 × ZS} {t0 : Int32} {S : ZS}  (hf : f_X5_readRights_65 t0 S = some o)   : EqT S o.2 := by
  have h_S : EqT S S := eqt_0
  unfold f_X5_readRights_65 at hf
  obtain ⟨-, hf⟩ := m_chkE hf
  cases hf
  exact h_S
theorem fq_X5_readRights_47 {o : Int32 × ZS} {self13 : Nat → Nat → Int32 → ZS → Option (Int32 × ZS)} {x0 : Nat} {x1 : Nat} {x2 : Int32} {S : ZS} (hself13 : ∀ (z0 : Nat) (z1 : Nat) (z2 : Int32) (S : ZS) (o : Int32 × ZS), self13 z0 z1 z2 S = some o → EqT S o.2) (hf : f_X5_readRights_47 self13 x0 x1 x2 S = some o)   : EqT S o.2 := by
  have h_S : EqT S S := eqt_0
  unfold f_X5_readRights_47 at hf
  obtain ⟨v1, e1, hf⟩ := m_bndE hf
  exact eqt_t h_S (hself13 _ _ _ _ _ hf)
theorem fq_X5_readRights_13s {o : Int32 × ZS} {self13 : Nat → Nat → Int32 → ZS → Option (Int32 × ZS)} {x0 : Nat} {x1 : Nat} {x2 : Int32} {S : ZS} (hself13 : ∀ (z0 : Nat) (z1 : Nat) (z2 : Int32) (S : ZS) (o : Int32 × ZS), self13 z0 z1 z2 S = some o → EqT S o.2) (hf : f_X5_readRights_13s self13 x0 x1 x2 S = some o)   : EqT S o.2 := by
  have h_S : EqT S S := eqt_0
  unfold f_X5_readRights_13s at hf
  obtain ⟨-, hf⟩ := m_chkE hf
  obtain ⟨o1, ho, hf⟩ := m_calE hf
  have h_o1 := eqt_t h_S (fq_J0_length_8abf5 ho)
  clear ho
  rcases m_ifE hf with ⟨-, hf⟩ | ⟨-, hf⟩
  ·
    obtain ⟨q1, hf⟩ := m_chkE hf
    rcases m_ifE hf with ⟨-, hf⟩ | ⟨-, hf⟩
    ·
      exact eqt_t h_o1 (fq_X5_readRights_65  hf)
    ·
      exact eqt_t h_o1 (fq_X5_readRights_65  hf)
  ·
    obtain ⟨-, hf⟩ := m_chkE hf
    obtain ⟨o2, ho, hf⟩ := m_calE hf
    have h_o2 := eqt_t h_o1 (fq_J0_charAt_5068e ho)
    clear ho
    obtain ⟨q2, hf⟩ := m_chkE hf
    obtain ⟨o3, ho, hf⟩ := m_calE hf
    have h_o3 := eqt_t h_o2 (fq_X5_skip ho)
    clear ho
    rcases m_ifE hf with ⟨-, hf⟩ | ⟨-, hf⟩
    ·
      exact eqt_t h_o3 (fq_X5_readRights_47 hself13 hf)
    ·
      obtain ⟨q3, hf⟩ := m_chkE hf
      obtain ⟨v4, e4, hf⟩ := m_bndE hf
      obtain ⟨v5, e5, hf⟩ := m_bndE hf
      obtain ⟨q6, hf⟩ := m_chkE hf
      obtain ⟨S6, e7, hf⟩ := m_bndE hf
      have h_S6 := eqt_I h_o3 e7
      exact eqt_t h_S6 (fq_X5_readRights_47 hself13 hf)
theorem fq_X5_readRights_13   (n : Nat) : ∀ (y0 : Nat) (y1 : Nat) (y2 : Int32) (S : ZS) (o : Int32 × ZS), f_X5_readRights_13  n y0 y1 y2 S = some o → EqT S o.2 := by
  induction n with
  | zero => intro y0 y1 y2 S o hf; cases hf
  | succ n ih => intro y0 y1 y2 S o hf; exact fq_X5_readRights_13s  ih hf
theorem fq_X5_readRights_0 {o : Int32 × ZS} {x0 : Nat} {x1 : Nat} {S : ZS}  (hf : f_X5_readRights_0 x0 x1 S = some o)   : EqT S o.2 := by
  have h_S : EqT S S := eqt_0
  unfold f_X5_readRights_0 at hf
  obtain ⟨q1, hf⟩ := m_chkE hf
  obtain ⟨o1, ho, hf⟩ := m_calE hf
  have h_o1 := eqt_t h_S (fq_X5_skip ho)
  clear ho
  rcases m_ifE hf with ⟨-, hf⟩ | ⟨-, hf⟩
  ·
    exact eqt_t h_o1 (fq_X5_readRights_13  _ _ _ _ _ _ hf)
  ·
    obtain ⟨-, hf⟩ := m_chkE hf
    cases hf
    exact h_o1
theorem fq_X5_readRights {o : Int32 × ZS} {x0 : Nat} {x1 : Nat} {S : ZS}  (hf : f_X5_readRights x0 x1 S = some o)   : EqT S o.2 := by
  have h_S : EqT S S := eqt_0
  unfold f_X5_readRights at hf
  exact eqt_t h_S (fq_X5_readRights_0  hf)
theorem fq_X11_isFile_17 {o : Int32 × ZS} {t0 : Int32} {S : ZS}  (hf : f_X11_isFile_17 t0 S = some o)   : EqT S o.2 := by
  have h_S : EqT S S := eqt_0
  unfold f_X11_isFile_17 at hf
  obtain ⟨-, hf⟩ := m_chkE hf
  cases hf
  exact h_S
theorem fq_X11_isFile_16 {o : Int32 × ZS} {S : ZS}  (hf : f_X11_isFile_16 S = some o)   : EqT S o.2 := by
  have h_S : EqT S S := eqt_0
  unfold f_X11_isFile_16 at hf
  exact eqt_t h_S (fq_X11_isFile_17  hf)
theorem fq_X11_isFile_0 {o : Int32 × ZS} {x0 : Int32} {S : ZS}  (hf : f_X11_isFile_0 x0 S = some o)   : EqT S o.2 := by
  have h_S : EqT S S := eqt_0
  unfold f_X11_isFile_0 at hf
  rcases m_ifE hf with ⟨-, hf⟩ | ⟨-, hf⟩
  ·
    exact eqt_t h_S (fq_X11_isFile_16  hf)
  ·
    rcases m_ifE hf with ⟨-, hf⟩ | ⟨-, hf⟩
    ·
      exact eqt_t h_S (fq_X11_isFile_16  hf)
    ·
      exact eqt_t h_S (fq_X11_isFile_17  hf)
theorem fq_X11_isFile {o : Int32 × ZS} {x0 : Int32} {S : ZS}  (hf : f_X11_isFile x0 S = some o)   : EqT S o.2 := by
  have h_S : EqT S S := eqt_0
  unfold f_X11_isFile at hf
  exact eqt_t h_S (fq_X11_isFile_0  hf)
theorem fq_X11_squareOf_30 {o : Int32 × ZS} {t0 : Int32} {S : ZS}  (hf : f_X11_squareOf_30 t0 S = some o)   : EqT S o.2 := by
  have h_S : EqT S S := eqt_0
  unfold f_X11_squareOf_30 at hf
  cases hf
  exact h_S
theorem fq_X11_squareOf_29 {o : Int32 × ZS} {S : ZS}  (hf : f_X11_squareOf_29 S = some o)   : EqT S o.2 := by
  have h_S : EqT S S := eqt_0
  unfold f_X11_squareOf_29 at hf
  exact eqt_t h_S (fq_X11_squareOf_30  hf)
theorem fq_X11_squareOf_0 {o : Int32 × ZS} {x0 : Int32} {x1 : Int32} {S : ZS}  (hf : f_X11_squareOf_0 x0 x1 S = some o)   : EqT S o.2 := by
  have h_S : EqT S S := eqt_0
  unfold f_X11_squareOf_0 at hf
  obtain ⟨o1, ho, hf⟩ := m_calE hf
  have h_o1 := eqt_t h_S (fq_X11_isFile ho)
  clear ho
  rcases m_ifE hf with ⟨-, hf⟩ | ⟨-, hf⟩
  ·
    exact eqt_t h_o1 (fq_X11_squareOf_29  hf)
  ·
    obtain ⟨o2, ho, hf⟩ := m_calE hf
    have h_o2 := eqt_t h_o1 (fq_X11_isRank ho)
    clear ho
    rcases m_ifE hf with ⟨-, hf⟩ | ⟨-, hf⟩
    ·
      exact eqt_t h_o2 (fq_X11_squareOf_29  hf)
    ·
      obtain ⟨v3, e1, hf⟩ := m_bndE hf
      obtain ⟨v4, e2, hf⟩ := m_bndE hf
      obtain ⟨v5, e3, hf⟩ := m_bndE hf
      obtain ⟨v6, e4, hf⟩ := m_bndE hf
      exact eqt_t h_o2 (fq_X11_squareOf_30  hf)
theorem fq_X11_squareOf {o : Int32 × ZS} {x0 : Int32} {x1 : Int32} {S : ZS}  (hf : f_X11_squareOf x0 x1 S = some o)   : EqT S o.2 := by
  have h_S : EqT S S := eqt_0
  unfold f_X11_squareOf at hf
  exact eqt_t h_S (fq_X11_squareOf_0  hf)
theorem fq_X5_readPassed_65 {o : Int32 × ZS} {t0 : Int32} {S : ZS}  (hf : f_X5_readPassed_65 t0 S = some o)   : EqT S o.2 := by
  have h_S : EqT S S := eqt_0
  unfold f_X5_readPassed_65 at hf
  obtain ⟨-, hf⟩ := m_chkE hf
  cases hf
  exact h_S
theorem fq_X5_readPassed_0 {o : Int32 × ZS} {x0 : Nat} {x1 : Nat} {S : ZS}  (hf : f_X5_readPassed_0 x0 x1 S = some o)   : EqT S o.2 := by
  have h_S : EqT S S := eqt_0
  unfold f_X5_readPassed_0 at hf
  obtain ⟨q1, hf⟩ := m_chkE hf
  obtain ⟨o1, ho, hf⟩ := m_calE hf
  have h_o1 := eqt_t h_S (fq_X5_skip ho)
  clear ho
  rcases m_ifE hf with ⟨-, hf⟩ | ⟨-, hf⟩
  ·
    obtain ⟨q2, hf⟩ := m_chkE hf
    obtain ⟨b2, -, hf⟩ := m_calE hf
    obtain ⟨q3, hf⟩ := m_chkE hf
    obtain ⟨q4, hf⟩ := m_chkE hf
    obtain ⟨o3, ho, hf⟩ := m_calE hf
    have h_o3 := eqt_t h_o1 (fq_X6_at ho)
    clear ho
    obtain ⟨q5, hf⟩ := m_chkE hf
    obtain ⟨b4, -, hf⟩ := m_calE hf
    obtain ⟨q6, hf⟩ := m_chkE hf
    obtain ⟨v5, e7, hf⟩ := m_bndE hf
    obtain ⟨q8, hf⟩ := m_chkE hf
    obtain ⟨o6, ho, hf⟩ := m_calE hf
    have h_o6 := eqt_t h_o3 (fq_X6_at ho)
    clear ho
    obtain ⟨o7, ho, hf⟩ := m_calE hf
    have h_o7 := eqt_t h_o6 (fq_X11_squareOf ho)
    clear ho
    obtain ⟨q9, hf⟩ := m_chkE hf
    obtain ⟨S8, e10, hf⟩ := m_bndE hf
    have h_S8 := eqt_I h_o7 e10
    obtain ⟨q11, hf⟩ := m_chkE hf
    obtain ⟨v9, e12, hf⟩ := m_bndE hf
    obtain ⟨q13, hf⟩ := m_chkE hf
    obtain ⟨S10, e14, hf⟩ := m_bndE hf
    have h_S10 := eqt_I h_S8 e14
    obtain ⟨q15, hf⟩ := m_chkE hf
    rcases m_ifE hf with ⟨-, hf⟩ | ⟨-, hf⟩
    ·
      exact eqt_t h_S10 (fq_X5_readPassed_65  hf)
    ·
      exact eqt_t h_S10 (fq_X5_readPassed_65  hf)
  ·
    obtain ⟨-, hf⟩ := m_chkE hf
    cases hf
    exact h_o1
theorem fq_X5_readPassed {o : Int32 × ZS} {x0 : Nat} {x1 : Nat} {S : ZS}  (hf : f_X5_readPassed x0 x1 S = some o)   : EqT S o.2 := by
  have h_S : EqT S S := eqt_0
  unfold f_X5_readPassed at hf
  exact eqt_t h_S (fq_X5_readPassed_0  hf)
theorem fq_X5_readNumber_113 {o : Int32 × ZS} {t0 : Int32} {S : ZS}  (hf : f_X5_readNumber_113 t0 S = some o)   : EqT S o.2 := by
  have h_S : EqT S S := eqt_0
  unfold f_X5_readNumber_113 at hf
  cases hf
  exact h_S
theorem fq_X5_readNumber_108 {o : Int32 × ZS} {S : ZS}  (hf : f_X5_readNumber_108 S = some o)   : EqT S o.2 := by
  have h_S : EqT S S := eqt_0
  unfold f_X5_readNumber_108 at hf
  exact eqt_t h_S (fq_X5_readNumber_113  hf)
theorem fq_X5_readNumber_95 {o : Int32 × ZS} {x0 : Nat} {x1 : Int32} {x2 : Int32} {t0 : Int32} {S : ZS}  (hf : f_X5_readNumber_95 x0 x1 x2 t0 S = some o)   : EqT S o.2 := by
  have h_S : EqT S S := eqt_0
  unfold f_X5_readNumber_95 at hf
  obtain ⟨q1, hf⟩ := m_chkE hf
  rcases m_ifE hf with ⟨-, hf⟩ | ⟨-, hf⟩
  ·
    exact eqt_t h_S (fq_X5_readNumber_108  hf)
  ·
    rcases m_ifE hf with ⟨-, hf⟩ | ⟨-, hf⟩
    ·
      exact eqt_t h_S (fq_X5_readNumber_113  hf)
    ·
      exact eqt_t h_S (fq_X5_readNumber_108  hf)
theorem fq_X5_readNumber_94 {o : Int32 × ZS} {x0 : Nat} {x1 : Int32} {x2 : Int32} {S : ZS}  (hf : f_X5_readNumber_94 x0 x1 x2 S = some o)   : EqT S o.2 := by
  have h_S : EqT S S := eqt_0
  unfold f_X5_readNumber_94 at hf
  exact eqt_t h_S (fq_X5_readNumber_95  hf)
theorem fq_X5_readNumber_67 {o : Int32 × ZS} {x0 : Nat} {x1 : Int32} {x2 : Int32} {S : ZS}  (hf : f_X5_readNumber_67 x0 x1 x2 S = some o)   : EqT S o.2 := by
  have h_S : EqT S S := eqt_0
  unfold f_X5_readNumber_67 at hf
  obtain ⟨q1, hf⟩ := m_chkE hf
  obtain ⟨b1, -, hf⟩ := m_calE hf
  obtain ⟨q2, hf⟩ := m_chkE hf
  obtain ⟨o2, ho, hf⟩ := m_calE hf
  have h_o2 := eqt_t h_S (fq_X6_at ho)
  clear ho
  rcases m_ifE hf with ⟨-, hf⟩ | ⟨-, hf⟩
  ·
    obtain ⟨q3, hf⟩ := m_chkE hf
    obtain ⟨v3, e4, hf⟩ := m_bndE hf
    rcases m_ifE hf with ⟨-, hf⟩ | ⟨-, hf⟩
    ·
      exact eqt_t h_o2 (fq_X5_readNumber_94  hf)
    ·
      exact eqt_t h_o2 (fq_X5_readNumber_95  hf)
  ·
    exact eqt_t h_o2 (fq_X5_readNumber_94  hf)
theorem fq_X5_readNumber_7s {o : Int32 × ZS} {self7 : Nat → Int32 → Int32 → ZS → Option (Int32 × ZS)} {x0 : Nat} {x1 : Int32} {x2 : Int32} {S : ZS} (hself7 : ∀ (z0 : Nat) (z1 : Int32) (z2 : Int32) (S : ZS) (o : Int32 × ZS), self7 z0 z1 z2 S = some o → EqT S o.2) (hf : f_X5_readNumber_7s self7 x0 x1 x2 S = some o)   : EqT S o.2 := by
  have h_S : EqT S S := eqt_0
  unfold f_X5_readNumber_7s at hf
  obtain ⟨q1, hf⟩ := m_chkE hf
  obtain ⟨v1, e2, hf⟩ := m_bndE hf
  rcases m_ifE hf with ⟨-, hf⟩ | ⟨-, hf⟩
  ·
    exact eqt_t h_S (fq_X5_readNumber_67  hf)
  ·
    obtain ⟨q3, hf⟩ := m_chkE hf
    obtain ⟨b2, -, hf⟩ := m_calE hf
    obtain ⟨q4, hf⟩ := m_chkE hf
    obtain ⟨q5, hf⟩ := m_chkE hf
    obtain ⟨o3, ho, hf⟩ := m_calE hf
    have h_o3 := eqt_t h_S (fq_X6_at ho)
    clear ho
    obtain ⟨o4, ho, hf⟩ := m_calE hf
    have h_o4 := eqt_t h_o3 (fq_X11_isDigit ho)
    clear ho
    rcases m_ifE hf with ⟨-, hf⟩ | ⟨-, hf⟩
    ·
      exact eqt_t h_o4 (fq_X5_readNumber_67  hf)
    ·
      obtain ⟨v5, e6, hf⟩ := m_bndE hf
      obtain ⟨q7, hf⟩ := m_chkE hf
      obtain ⟨b6, -, hf⟩ := m_calE hf
      obtain ⟨q8, hf⟩ := m_chkE hf
      obtain ⟨q9, hf⟩ := m_chkE hf
      obtain ⟨o7, ho, hf⟩ := m_calE hf
      have h_o7 := eqt_t h_o4 (fq_X6_at ho)
      clear ho
      obtain ⟨v8, e10, hf⟩ := m_bndE hf
      obtain ⟨v9, e11, hf⟩ := m_bndE hf
      obtain ⟨q12, hf⟩ := m_chkE hf
      obtain ⟨v10, e13, hf⟩ := m_bndE hf
      obtain ⟨q14, hf⟩ := m_chkE hf
      obtain ⟨S11, e15, hf⟩ := m_bndE hf
      have h_S11 := eqt_I h_o7 e15
      exact eqt_t h_S11 (hself7 _ _ _ _ _ hf)
theorem fq_X5_readNumber_7   (n : Nat) : ∀ (y0 : Nat) (y1 : Int32) (y2 : Int32) (S : ZS) (o : Int32 × ZS), f_X5_readNumber_7  n y0 y1 y2 S = some o → EqT S o.2 := by
  induction n with
  | zero => intro y0 y1 y2 S o hf; cases hf
  | succ n ih => intro y0 y1 y2 S o hf; exact fq_X5_readNumber_7s  ih hf
theorem fq_X5_readNumber_0 {o : Int32 × ZS} {x0 : Nat} {S : ZS}  (hf : f_X5_readNumber_0 x0 S = some o)   : EqT S o.2 := by
  have h_S : EqT S S := eqt_0
  unfold f_X5_readNumber_0 at hf
  obtain ⟨q1, hf⟩ := m_chkE hf
  exact eqt_t h_S (fq_X5_readNumber_7  _ _ _ _ _ _ hf)
theorem fq_X5_readNumber {o : Int32 × ZS} {x0 : Nat} {S : ZS}  (hf : f_X5_readNumber x0 S = some o)   : EqT S o.2 := by
  have h_S : EqT S S := eqt_0
  unfold f_X5_readNumber at hf
  exact eqt_t h_S (fq_X5_readNumber_0  hf)
theorem fq_X5_readMoveNumber_20 {o : Int32 × ZS} {t0 : Int32} {S : ZS}  (hf : f_X5_readMoveNumber_20 t0 S = some o)   : EqT S o.2 := by
  have h_S : EqT S S := eqt_0
  unfold f_X5_readMoveNumber_20 at hf
  obtain ⟨-, hf⟩ := m_chkE hf
  cases hf
  exact h_S
theorem fq_X5_readMoveNumber_0 {o : Int32 × ZS} {x0 : Nat} {x1 : Nat} {S : ZS}  (hf : f_X5_readMoveNumber_0 x0 x1 S = some o)   : EqT S o.2 := by
  have h_S : EqT S S := eqt_0
  unfold f_X5_readMoveNumber_0 at hf
  obtain ⟨q1, hf⟩ := m_chkE hf
  obtain ⟨o1, ho, hf⟩ := m_calE hf
  have h_o1 := eqt_t h_S (fq_X5_readNumber ho)
  clear ho
  obtain ⟨q2, hf⟩ := m_chkE hf
  obtain ⟨S2, e3, hf⟩ := m_bndE hf
  have h_S2 := eqt_I h_o1 e3
  obtain ⟨q4, hf⟩ := m_chkE hf
  rcases m_ifE hf with ⟨-, hf⟩ | ⟨-, hf⟩
  ·
    exact eqt_t h_S2 (fq_X5_readMoveNumber_20  hf)
  ·
    exact eqt_t h_S2 (fq_X5_readMoveNumber_20  hf)
theorem fq_X5_readMoveNumber {o : Int32 × ZS} {x0 : Nat} {x1 : Nat} {S : ZS}  (hf : f_X5_readMoveNumber x0 x1 S = some o)   : EqT S o.2 := by
  have h_S : EqT S S := eqt_0
  unfold f_X5_readMoveNumber at hf
  exact eqt_t h_S (fq_X5_readMoveNumber_0  hf)
theorem fq_X5_hasSoundMen_115 {o : Int32 × ZS} {t0 : Int32} {S : ZS}  (hf : f_X5_hasSoundMen_115 t0 S = some o)   : EqT S o.2 := by
  have h_S : EqT S S := eqt_0
  unfold f_X5_hasSoundMen_115 at hf
  obtain ⟨-, hf⟩ := m_chkE hf
  cases hf
  exact h_S
theorem fq_X5_hasSoundMen_114 {o : Int32 × ZS} {S : ZS}  (hf : f_X5_hasSoundMen_114 S = some o)   : EqT S o.2 := by
  have h_S : EqT S S := eqt_0
  unfold f_X5_hasSoundMen_114 at hf
  exact eqt_t h_S (fq_X5_hasSoundMen_115  hf)
theorem fq_X5_hasSoundMen_73 {o : Int32 × ZS} {self6 : Nat → Int32 → Int32 → Int32 → ZS → Option (Int32 × ZS)} {x0 : Nat} {x1 : Int32} {x2 : Int32} {x3 : Int32} {S : ZS} (hself6 : ∀ (z0 : Nat) (z1 : Int32) (z2 : Int32) (z3 : Int32) (S : ZS) (o : Int32 × ZS), self6 z0 z1 z2 z3 S = some o → EqT S o.2) (hf : f_X5_hasSoundMen_73 self6 x0 x1 x2 x3 S = some o)   : EqT S o.2 := by
  have h_S : EqT S S := eqt_0
  unfold f_X5_hasSoundMen_73 at hf
  obtain ⟨v1, e1, hf⟩ := m_bndE hf
  exact eqt_t h_S (hself6 _ _ _ _ _ _ hf)
theorem fq_X5_hasSoundMen_71 {o : Int32 × ZS} {S : ZS}  (hf : f_X5_hasSoundMen_71 S = some o)   : EqT S o.2 := by
  have h_S : EqT S S := eqt_0
  unfold f_X5_hasSoundMen_71 at hf
  obtain ⟨-, hf⟩ := m_chkE hf
  cases hf
  exact h_S
theorem fq_X5_hasSoundMen_48 {o : Int32 × ZS} {self6 : Nat → Int32 → Int32 → Int32 → ZS → Option (Int32 × ZS)} {x0 : Nat} {x1 : Int32} {x3 : Int32} {t0 : Int32} {t1 : Int32} {S : ZS} (hself6 : ∀ (z0 : Nat) (z1 : Int32) (z2 : Int32) (z3 : Int32) (S : ZS) (o : Int32 × ZS), self6 z0 z1 z2 z3 S = some o → EqT S o.2) (hf : f_X5_hasSoundMen_48 self6 x0 x1 x3 t0 t1 S = some o)   : EqT S o.2 := by
  have h_S : EqT S S := eqt_0
  unfold f_X5_hasSoundMen_48 at hf
  obtain ⟨v1, e1, hf⟩ := m_bndE hf
  obtain ⟨q2, hf⟩ := m_chkE hf
  obtain ⟨o2, ho, hf⟩ := m_calE hf
  have h_o2 := eqt_t h_S (fq_X0_kindAt ho)
  clear ho
  rcases m_ifE hf with ⟨-, hf⟩ | ⟨-, hf⟩
  ·
    rcases m_ifE hf with ⟨-, hf⟩ | ⟨-, hf⟩
    ·
      exact eqt_t h_o2 (fq_X5_hasSoundMen_71  hf)
    ·
      rcases m_ifE hf with ⟨-, hf⟩ | ⟨-, hf⟩
      ·
        exact eqt_t h_o2 (fq_X5_hasSoundMen_73 hself6 hf)
      ·
        exact eqt_t h_o2 (fq_X5_hasSoundMen_71  hf)
  ·
    exact eqt_t h_o2 (fq_X5_hasSoundMen_73 hself6 hf)
theorem fq_X5_hasSoundMen_29 {o : Int32 × ZS} {self6 : Nat → Int32 → Int32 → Int32 → ZS → Option (Int32 × ZS)} {x0 : Nat} {x2 : Int32} {x3 : Int32} {t0 : Int32} {t1 : Int32} {S : ZS} (hself6 : ∀ (z0 : Nat) (z1 : Int32) (z2 : Int32) (z3 : Int32) (S : ZS) (o : Int32 × ZS), self6 z0 z1 z2 z3 S = some o → EqT S o.2) (hf : f_X5_hasSoundMen_29 self6 x0 x2 x3 t0 t1 S = some o)   : EqT S o.2 := by
  have h_S : EqT S S := eqt_0
  unfold f_X5_hasSoundMen_29 at hf
  obtain ⟨v1, e1, hf⟩ := m_bndE hf
  obtain ⟨q2, hf⟩ := m_chkE hf
  obtain ⟨b2, -, hf⟩ := m_calE hf
  obtain ⟨q3, hf⟩ := m_chkE hf
  obtain ⟨-, hf⟩ := m_chkE hf
  obtain ⟨v3, e4, hf⟩ := m_bndE hf
  rcases m_ifE hf with ⟨-, hf⟩ | ⟨-, hf⟩
  ·
    exact eqt_t h_S (fq_X5_hasSoundMen_48 hself6 hf)
  ·
    exact eqt_t h_S (fq_X5_hasSoundMen_48 hself6 hf)
theorem fq_X5_hasSoundMen_6s {o : Int32 × ZS} {self6 : Nat → Int32 → Int32 → Int32 → ZS → Option (Int32 × ZS)} {x0 : Nat} {x1 : Int32} {x2 : Int32} {x3 : Int32} {S : ZS} (hself6 : ∀ (z0 : Nat) (z1 : Int32) (z2 : Int32) (z3 : Int32) (S : ZS) (o : Int32 × ZS), self6 z0 z1 z2 z3 S = some o → EqT S o.2) (hf : f_X5_hasSoundMen_6s self6 x0 x1 x2 x3 S = some o)   : EqT S o.2 := by
  have h_S : EqT S S := eqt_0
  unfold f_X5_hasSoundMen_6s at hf
  rcases m_ifE hf with ⟨-, hf⟩ | ⟨-, hf⟩
  ·
    rcases m_ifE hf with ⟨-, hf⟩ | ⟨-, hf⟩
    ·
      rcases m_ifE hf with ⟨-, hf⟩ | ⟨-, hf⟩
      ·
        obtain ⟨q1, hf⟩ := m_chkE hf
        obtain ⟨v1, e2, hf⟩ := m_bndE hf
        obtain ⟨q3, hf⟩ := m_chkE hf
        obtain ⟨o2, ho, hf⟩ := m_calE hf
        have h_o2 := eqt_t h_S (fq_X0_kingOf ho)
        clear ho
        obtain ⟨q4, hf⟩ := m_chkE hf
        obtain ⟨q5, hf⟩ := m_chkE hf
        obtain ⟨o3, ho, hf⟩ := m_calE hf
        have h_o3 := eqt_t h_o2 (fq_X0_attacked ho)
        clear ho
        rcases m_ifE hf with ⟨-, hf⟩ | ⟨-, hf⟩
        ·
          exact eqt_t h_o3 (fq_X5_hasSoundMen_115  hf)
        ·
          exact eqt_t h_o3 (fq_X5_hasSoundMen_114  hf)
      ·
        exact eqt_t h_S (fq_X5_hasSoundMen_114  hf)
    ·
      exact eqt_t h_S (fq_X5_hasSoundMen_114  hf)
  ·
    obtain ⟨q6, hf⟩ := m_chkE hf
    obtain ⟨b4, -, hf⟩ := m_calE hf
    obtain ⟨q7, hf⟩ := m_chkE hf
    obtain ⟨-, hf⟩ := m_chkE hf
    obtain ⟨v5, e8, hf⟩ := m_bndE hf
    rcases m_ifE hf with ⟨-, hf⟩ | ⟨-, hf⟩
    ·
      exact eqt_t h_S (fq_X5_hasSoundMen_29 hself6 hf)
    ·
      exact eqt_t h_S (fq_X5_hasSoundMen_29 hself6 hf)
theorem fq_X5_hasSoundMen_6   (n : Nat) : ∀ (y0 : Nat) (y1 : Int32) (y2 : Int32) (y3 : Int32) (S : ZS) (o : Int32 × ZS), f_X5_hasSoundMen_6  n y0 y1 y2 y3 S = some o → EqT S o.2 := by
  induction n with
  | zero => intro y0 y1 y2 y3 S o hf; cases hf
  | succ n ih => intro y0 y1 y2 y3 S o hf; exact fq_X5_hasSoundMen_6s  ih hf
theorem fq_X5_hasSoundMen_0 {o : Int32 × ZS} {x0 : Nat} {S : ZS}  (hf : f_X5_hasSoundMen_0 x0 S = some o)   : EqT S o.2 := by
  have h_S : EqT S S := eqt_0
  unfold f_X5_hasSoundMen_0 at hf
  exact eqt_t h_S (fq_X5_hasSoundMen_6  _ _ _ _ _ _ _ hf)
theorem fq_X5_hasSoundMen {o : Int32 × ZS} {x0 : Nat} {S : ZS}  (hf : f_X5_hasSoundMen x0 S = some o)   : EqT S o.2 := by
  have h_S : EqT S S := eqt_0
  unfold f_X5_hasSoundMen at hf
  exact eqt_t h_S (fq_X5_hasSoundMen_0  hf)
theorem fq_X5_hasSoundRights_92 {o : Int32 × ZS} {self2 : Nat → Int32 → ZS → Option (Int32 × ZS)} {x0 : Nat} {x1 : Int32} {S : ZS} (hself2 : ∀ (z0 : Nat) (z1 : Int32) (S : ZS) (o : Int32 × ZS), self2 z0 z1 S = some o → EqT S o.2) (hf : f_X5_hasSoundRights_92 self2 x0 x1 S = some o)   : EqT S o.2 := by
  have h_S : EqT S S := eqt_0
  unfold f_X5_hasSoundRights_92 at hf
  obtain ⟨v1, e1, hf⟩ := m_bndE hf
  exact eqt_t h_S (hself2 _ _ _ _ hf)
theorem fq_X5_hasSoundRights_90 {o : Int32 × ZS} {S : ZS}  (hf : f_X5_hasSoundRights_90 S = some o)   : EqT S o.2 := by
  have h_S : EqT S S := eqt_0
  unfold f_X5_hasSoundRights_90 at hf
  obtain ⟨-, hf⟩ := m_chkE hf
  cases hf
  exact h_S
theorem fq_X5_hasSoundRights_50 {o : Int32 × ZS} {self2 : Nat → Int32 → ZS → Option (Int32 × ZS)} {x0 : Nat} {x1 : Int32} {x2 : Int32} {x3 : Int32} {t0 : Int32} {S : ZS} (hself2 : ∀ (z0 : Nat) (z1 : Int32) (S : ZS) (o : Int32 × ZS), self2 z0 z1 S = some o → EqT S o.2) (hf : f_X5_hasSoundRights_50 self2 x0 x1 x2 x3 t0 S = some o)   : EqT S o.2 := by
  have h_S : EqT S S := eqt_0
  unfold f_X5_hasSoundRights_50 at hf
  obtain ⟨q1, hf⟩ := m_chkE hf
  obtain ⟨v1, e2, hf⟩ := m_bndE hf
  obtain ⟨v2, e3, hf⟩ := m_bndE hf
  rcases m_ifE hf with ⟨-, hf⟩ | ⟨-, hf⟩
  ·
    obtain ⟨q4, hf⟩ := m_chkE hf
    obtain ⟨b3, -, hf⟩ := m_calE hf
    obtain ⟨q5, hf⟩ := m_chkE hf
    obtain ⟨-, hf⟩ := m_chkE hf
    obtain ⟨v4, e6, hf⟩ := m_bndE hf
    obtain ⟨v5, e7, hf⟩ := m_bndE hf
    rcases m_ifE hf with ⟨-, hf⟩ | ⟨-, hf⟩
    ·
      obtain ⟨q8, hf⟩ := m_chkE hf
      obtain ⟨b6, -, hf⟩ := m_calE hf
      obtain ⟨q9, hf⟩ := m_chkE hf
      obtain ⟨-, hf⟩ := m_chkE hf
      obtain ⟨v7, e10, hf⟩ := m_bndE hf
      obtain ⟨v8, e11, hf⟩ := m_bndE hf
      rcases m_ifE hf with ⟨-, hf⟩ | ⟨-, hf⟩
      ·
        exact eqt_t h_S (fq_X5_hasSoundRights_92 hself2 hf)
      ·
        exact eqt_t h_S (fq_X5_hasSoundRights_90  hf)
    ·
      exact eqt_t h_S (fq_X5_hasSoundRights_90  hf)
  ·
    exact eqt_t h_S (fq_X5_hasSoundRights_92 hself2 hf)
theorem fq_X5_hasSoundRights_34 {o : Int32 × ZS} {self2 : Nat → Int32 → ZS → Option (Int32 × ZS)} {x0 : Nat} {x1 : Int32} {x2 : Int32} {t0 : Int32} {S : ZS} (hself2 : ∀ (z0 : Nat) (z1 : Int32) (S : ZS) (o : Int32 × ZS), self2 z0 z1 S = some o → EqT S o.2) (hf : f_X5_hasSoundRights_34 self2 x0 x1 x2 t0 S = some o)   : EqT S o.2 := by
  have h_S : EqT S S := eqt_0
  unfold f_X5_hasSoundRights_34 at hf
  obtain ⟨v1, e1, hf⟩ := m_bndE hf
  rcases m_ifE hf with ⟨-, hf⟩ | ⟨-, hf⟩
  ·
    obtain ⟨v3, e2, hf⟩ := m_bndE hf
    exact eqt_t h_S (fq_X5_hasSoundRights_50 hself2 hf)
  ·
    obtain ⟨v2, e3, hf⟩ := m_bndE hf
    exact eqt_t h_S (fq_X5_hasSoundRights_50 hself2 hf)
theorem fq_X5_hasSoundRights_22 {o : Int32 × ZS} {self2 : Nat → Int32 → ZS → Option (Int32 × ZS)} {x0 : Nat} {x1 : Int32} {t0 : Int32} {S : ZS} (hself2 : ∀ (z0 : Nat) (z1 : Int32) (S : ZS) (o : Int32 × ZS), self2 z0 z1 S = some o → EqT S o.2) (hf : f_X5_hasSoundRights_22 self2 x0 x1 t0 S = some o)   : EqT S o.2 := by
  have h_S : EqT S S := eqt_0
  unfold f_X5_hasSoundRights_22 at hf
  rcases m_ifE hf with ⟨-, hf⟩ | ⟨-, hf⟩
  ·
    exact eqt_t h_S (fq_X5_hasSoundRights_34 hself2 hf)
  ·
    exact eqt_t h_S (fq_X5_hasSoundRights_34 hself2 hf)
theorem fq_X5_hasSoundRights_2s {o : Int32 × ZS} {self2 : Nat → Int32 → ZS → Option (Int32 × ZS)} {x0 : Nat} {x1 : Int32} {S : ZS} (hself2 : ∀ (z0 : Nat) (z1 : Int32) (S : ZS) (o : Int32 × ZS), self2 z0 z1 S = some o → EqT S o.2) (hf : f_X5_hasSoundRights_2s self2 x0 x1 S = some o)   : EqT S o.2 := by
  have h_S : EqT S S := eqt_0
  unfold f_X5_hasSoundRights_2s at hf
  obtain ⟨-, hf⟩ := m_chkE hf
  obtain ⟨o1, ho, hf⟩ := m_calE hf
  have h_o1 := eqt_t h_S (fq_J0_length_8abf5 ho)
  clear ho
  rcases m_ifE hf with ⟨-, hf⟩ | ⟨-, hf⟩
  ·
    obtain ⟨-, hf⟩ := m_chkE hf
    cases hf
    exact h_o1
  ·
    rcases m_ifE hf with ⟨-, hf⟩ | ⟨-, hf⟩
    ·
      exact eqt_t h_o1 (fq_X5_hasSoundRights_22 hself2 hf)
    ·
      exact eqt_t h_o1 (fq_X5_hasSoundRights_22 hself2 hf)
theorem fq_X5_hasSoundRights_2   (n : Nat) : ∀ (y0 : Nat) (y1 : Int32) (S : ZS) (o : Int32 × ZS), f_X5_hasSoundRights_2  n y0 y1 S = some o → EqT S o.2 := by
  induction n with
  | zero => intro y0 y1 S o hf; cases hf
  | succ n ih => intro y0 y1 S o hf; exact fq_X5_hasSoundRights_2s  ih hf
theorem fq_X5_hasSoundRights_0 {o : Int32 × ZS} {x0 : Nat} {S : ZS}  (hf : f_X5_hasSoundRights_0 x0 S = some o)   : EqT S o.2 := by
  have h_S : EqT S S := eqt_0
  unfold f_X5_hasSoundRights_0 at hf
  exact eqt_t h_S (fq_X5_hasSoundRights_2  _ _ _ _ _ hf)
theorem fq_X5_hasSoundRights {o : Int32 × ZS} {x0 : Nat} {S : ZS}  (hf : f_X5_hasSoundRights x0 S = some o)   : EqT S o.2 := by
  have h_S : EqT S S := eqt_0
  unfold f_X5_hasSoundRights at hf
  exact eqt_t h_S (fq_X5_hasSoundRights_0  hf)
theorem fq_X5_hasSoundPassed_49 {o : Int32 × ZS} {S : ZS}  (hf : f_X5_hasSoundPassed_49 S = some o)   : EqT S o.2 := by
  have h_S : EqT S S := eqt_0
  unfold f_X5_hasSoundPassed_49 at hf
  obtain ⟨-, hf⟩ := m_chkE hf
  cases hf
  exact h_S
theorem fq_X5_hasSoundPassed_113 {o : Int32 × ZS} {t0 : Int32} {S : ZS}  (hf : f_X5_hasSoundPassed_113 t0 S = some o)   : EqT S o.2 := by
  have h_S : EqT S S := eqt_0
  unfold f_X5_hasSoundPassed_113 at hf
  obtain ⟨-, hf⟩ := m_chkE hf
  cases hf
  exact h_S
theorem fq_X5_hasSoundPassed_112 {o : Int32 × ZS} {S : ZS}  (hf : f_X5_hasSoundPassed_112 S = some o)   : EqT S o.2 := by
  have h_S : EqT S S := eqt_0
  unfold f_X5_hasSoundPassed_112 at hf
  exact eqt_t h_S (fq_X5_hasSoundPassed_113  hf)
theorem fq_X5_hasSoundPassed_62 {o : Int32 × ZS} {x0 : Nat} {x1 : Int32} {t0 : Int32} {S : ZS}  (hf : f_X5_hasSoundPassed_62 x0 x1 t0 S = some o)   : EqT S o.2 := by
  have h_S : EqT S S := eqt_0
  unfold f_X5_hasSoundPassed_62 at hf
  obtain ⟨q1, hf⟩ := m_chkE hf
  obtain ⟨b1, -, hf⟩ := m_calE hf
  obtain ⟨v2, e2, hf⟩ := m_bndE hf
  obtain ⟨q3, hf⟩ := m_chkE hf
  obtain ⟨-, hf⟩ := m_chkE hf
  obtain ⟨v3, e4, hf⟩ := m_bndE hf
  obtain ⟨q5, hf⟩ := m_chkE hf
  obtain ⟨v4, e6, hf⟩ := m_bndE hf
  obtain ⟨v5, e7, hf⟩ := m_bndE hf
  obtain ⟨v6, e8, hf⟩ := m_bndE hf
  rcases m_ifE hf with ⟨-, hf⟩ | ⟨-, hf⟩
  ·
    obtain ⟨q9, hf⟩ := m_chkE hf
    obtain ⟨b7, -, hf⟩ := m_calE hf
    obtain ⟨v8, e10, hf⟩ := m_bndE hf
    obtain ⟨q11, hf⟩ := m_chkE hf
    obtain ⟨-, hf⟩ := m_chkE hf
    obtain ⟨v9, e12, hf⟩ := m_bndE hf
    rcases m_ifE hf with ⟨-, hf⟩ | ⟨-, hf⟩
    ·
      obtain ⟨q13, hf⟩ := m_chkE hf
      obtain ⟨q14, hf⟩ := m_chkE hf
      obtain ⟨o10, ho, hf⟩ := m_calE hf
      have h_o10 := eqt_t h_S (fq_X0_pawnAttacks ho)
      clear ho
      rcases m_ifE hf with ⟨-, hf⟩ | ⟨-, hf⟩
      ·
        exact eqt_t h_o10 (fq_X5_hasSoundPassed_112  hf)
      ·
        exact eqt_t h_o10 (fq_X5_hasSoundPassed_113  hf)
    ·
      exact eqt_t h_S (fq_X5_hasSoundPassed_112  hf)
  ·
    exact eqt_t h_S (fq_X5_hasSoundPassed_112  hf)
theorem fq_X5_hasSoundPassed_37 {o : Int32 × ZS} {x0 : Nat} {x1 : Int32} {x2 : Int32} {t0 : Int32} {t1 : Int32} {S : ZS}  (hf : f_X5_hasSoundPassed_37 x0 x1 x2 t0 t1 S = some o)   : EqT S o.2 := by
  have h_S : EqT S S := eqt_0
  unfold f_X5_hasSoundPassed_37 at hf
  rcases m_ifE hf with ⟨-, hf⟩ | ⟨-, hf⟩
  ·
    obtain ⟨q1, hf⟩ := m_chkE hf
    obtain ⟨b1, -, hf⟩ := m_calE hf
    obtain ⟨q2, hf⟩ := m_chkE hf
    obtain ⟨-, hf⟩ := m_chkE hf
    obtain ⟨v2, e3, hf⟩ := m_bndE hf
    rcases m_ifE hf with ⟨-, hf⟩ | ⟨-, hf⟩
    ·
      rcases m_ifE hf with ⟨-, hf⟩ | ⟨-, hf⟩
      ·
        exact eqt_t h_S (fq_X5_hasSoundPassed_62  hf)
      ·
        exact eqt_t h_S (fq_X5_hasSoundPassed_62  hf)
    ·
      exact eqt_t h_S (fq_X5_hasSoundPassed_49  hf)
  ·
    exact eqt_t h_S (fq_X5_hasSoundPassed_49  hf)
theorem fq_X5_hasSoundPassed_24 {o : Int32 × ZS} {x0 : Nat} {x1 : Int32} {t0 : Int32} {S : ZS}  (hf : f_X5_hasSoundPassed_24 x0 x1 t0 S = some o)   : EqT S o.2 := by
  have h_S : EqT S S := eqt_0
  unfold f_X5_hasSoundPassed_24 at hf
  obtain ⟨v1, e1, hf⟩ := m_bndE hf
  rcases m_ifE hf with ⟨-, hf⟩ | ⟨-, hf⟩
  ·
    exact eqt_t h_S (fq_X5_hasSoundPassed_37  hf)
  ·
    exact eqt_t h_S (fq_X5_hasSoundPassed_37  hf)
theorem fq_X5_hasSoundPassed_0 {o : Int32 × ZS} {x0 : Nat} {S : ZS}  (hf : f_X5_hasSoundPassed_0 x0 S = some o)   : EqT S o.2 := by
  have h_S : EqT S S := eqt_0
  unfold f_X5_hasSoundPassed_0 at hf
  obtain ⟨q1, hf⟩ := m_chkE hf
  rcases m_ifE hf with ⟨-, hf⟩ | ⟨-, hf⟩
  ·
    obtain ⟨-, hf⟩ := m_chkE hf
    cases hf
    exact h_S
  ·
    obtain ⟨q2, hf⟩ := m_chkE hf
    rcases m_ifE hf with ⟨-, hf⟩ | ⟨-, hf⟩
    ·
      exact eqt_t h_S (fq_X5_hasSoundPassed_24  hf)
    ·
      exact eqt_t h_S (fq_X5_hasSoundPassed_24  hf)
theorem fq_X5_hasSoundPassed {o : Int32 × ZS} {x0 : Nat} {S : ZS}  (hf : f_X5_hasSoundPassed x0 S = some o)   : EqT S o.2 := by
  have h_S : EqT S S := eqt_0
  unfold f_X5_hasSoundPassed at hf
  exact eqt_t h_S (fq_X5_hasSoundPassed_0  hf)
theorem fq_X5_readInto_146 {o : Int32 × ZS} {t0 : Int32} {S : ZS}  (hf : f_X5_readInto_146 t0 S = some o)   : EqT S o.2 := by
  have h_S : EqT S S := eqt_0
  unfold f_X5_readInto_146 at hf
  obtain ⟨-, hf⟩ := m_chkE hf
  cases hf
  exact h_S
theorem fq_X5_readInto_145 {o : Int32 × ZS} {S : ZS}  (hf : f_X5_readInto_145 S = some o)   : EqT S o.2 := by
  have h_S : EqT S S := eqt_0
  unfold f_X5_readInto_145 at hf
  exact eqt_t h_S (fq_X5_readInto_146  hf)
theorem fq_X5_readInto_0 {o : Int32 × ZS} {x0 : Nat} {x1 : Nat} {x2 : Nat} {S : ZS}  (hf : f_X5_readInto_0 x0 x1 x2 S = some o)   : EqT S o.2 := by
  have h_S : EqT S S := eqt_0
  unfold f_X5_readInto_0 at hf
  obtain ⟨q1, hf⟩ := m_chkE hf
  obtain ⟨S1, e2, hf⟩ := m_bndE hf
  have h_S1 := eqt_P h_S e2
  obtain ⟨q3, hf⟩ := m_chkE hf
  obtain ⟨S2, e4, hf⟩ := m_bndE hf
  have h_S2 := eqt_I h_S1 e4
  obtain ⟨q5, hf⟩ := m_chkE hf
  obtain ⟨o3, ho, hf⟩ := m_calE hf
  have h_o3 := eqt_t h_S2 (fq_X0_wipe ho)
  clear ho
  obtain ⟨q6, hf⟩ := m_chkE hf
  obtain ⟨o4, ho, hf⟩ := m_calE hf
  have h_o4 := eqt_t h_o3 (fq_X5_readMen ho)
  clear ho
  rcases m_ifE hf with ⟨-, hf⟩ | ⟨-, hf⟩
  ·
    exact eqt_t h_o4 (fq_X5_readInto_145  hf)
  ·
    obtain ⟨q7, hf⟩ := m_chkE hf
    obtain ⟨o5, ho, hf⟩ := m_calE hf
    have h_o5 := eqt_t h_o4 (fq_X5_skip ho)
    clear ho
    rcases m_ifE hf with ⟨-, hf⟩ | ⟨-, hf⟩
    ·
      exact eqt_t h_o5 (fq_X5_readInto_145  hf)
    ·
      obtain ⟨q8, hf⟩ := m_chkE hf
      obtain ⟨o6, ho, hf⟩ := m_calE hf
      have h_o6 := eqt_t h_o5 (fq_X5_readSide ho)
      clear ho
      rcases m_ifE hf with ⟨-, hf⟩ | ⟨-, hf⟩
      ·
        exact eqt_t h_o6 (fq_X5_readInto_145  hf)
      ·
        obtain ⟨q9, hf⟩ := m_chkE hf
        obtain ⟨o7, ho, hf⟩ := m_calE hf
        have h_o7 := eqt_t h_o6 (fq_X5_skip ho)
        clear ho
        rcases m_ifE hf with ⟨-, hf⟩ | ⟨-, hf⟩
        ·
          exact eqt_t h_o7 (fq_X5_readInto_145  hf)
        ·
          obtain ⟨q10, hf⟩ := m_chkE hf
          obtain ⟨o8, ho, hf⟩ := m_calE hf
          have h_o8 := eqt_t h_o7 (fq_X5_readRights ho)
          clear ho
          rcases m_ifE hf with ⟨-, hf⟩ | ⟨-, hf⟩
          ·
            exact eqt_t h_o8 (fq_X5_readInto_145  hf)
          ·
            obtain ⟨q11, hf⟩ := m_chkE hf
            obtain ⟨o9, ho, hf⟩ := m_calE hf
            have h_o9 := eqt_t h_o8 (fq_X5_skip ho)
            clear ho
            rcases m_ifE hf with ⟨-, hf⟩ | ⟨-, hf⟩
            ·
              exact eqt_t h_o9 (fq_X5_readInto_145  hf)
            ·
              obtain ⟨q12, hf⟩ := m_chkE hf
              obtain ⟨o10, ho, hf⟩ := m_calE hf
              have h_o10 := eqt_t h_o9 (fq_X5_readPassed ho)
              clear ho
              rcases m_ifE hf with ⟨-, hf⟩ | ⟨-, hf⟩
              ·
                exact eqt_t h_o10 (fq_X5_readInto_145  hf)
              ·
                obtain ⟨q13, hf⟩ := m_chkE hf
                obtain ⟨o11, ho, hf⟩ := m_calE hf
                have h_o11 := eqt_t h_o10 (fq_X5_skip ho)
                clear ho
                rcases m_ifE hf with ⟨-, hf⟩ | ⟨-, hf⟩
                ·
                  exact eqt_t h_o11 (fq_X5_readInto_145  hf)
                ·
                  obtain ⟨q14, hf⟩ := m_chkE hf
                  obtain ⟨o12, ho, hf⟩ := m_calE hf
                  have h_o12 := eqt_t h_o11 (fq_X5_readNumber ho)
                  clear ho
                  rcases m_ifE hf with ⟨-, hf⟩ | ⟨-, hf⟩
                  ·
                    exact eqt_t h_o12 (fq_X5_readInto_145  hf)
                  ·
                    obtain ⟨q15, hf⟩ := m_chkE hf
                    obtain ⟨o13, ho, hf⟩ := m_calE hf
                    have h_o13 := eqt_t h_o12 (fq_X5_skip ho)
                    clear ho
                    rcases m_ifE hf with ⟨-, hf⟩ | ⟨-, hf⟩
                    ·
                      exact eqt_t h_o13 (fq_X5_readInto_145  hf)
                    ·
                      obtain ⟨q16, hf⟩ := m_chkE hf
                      obtain ⟨o14, ho, hf⟩ := m_calE hf
                      have h_o14 := eqt_t h_o13 (fq_X5_readMoveNumber ho)
                      clear ho
                      rcases m_ifE hf with ⟨-, hf⟩ | ⟨-, hf⟩
                      ·
                        exact eqt_t h_o14 (fq_X5_readInto_145  hf)
                      ·
                        obtain ⟨q17, hf⟩ := m_chkE hf
                        obtain ⟨q18, hf⟩ := m_chkE hf
                        obtain ⟨b15, -, hf⟩ := m_calE hf
                        obtain ⟨q19, hf⟩ := m_chkE hf
                        obtain ⟨o16, ho, hf⟩ := m_calE hf
                        have h_o16 := eqt_t h_o14 (fq_X6_size ho)
                        clear ho
                        rcases m_ifE hf with ⟨-, hf⟩ | ⟨-, hf⟩
                        ·
                          obtain ⟨o17, ho, hf⟩ := m_calE hf
                          have h_o17 := eqt_t h_o16 (fq_X5_hasSoundMen ho)
                          clear ho
                          rcases m_ifE hf with ⟨-, hf⟩ | ⟨-, hf⟩
                          ·
                            exact eqt_t h_o17 (fq_X5_readInto_145  hf)
                          ·
                            obtain ⟨o18, ho, hf⟩ := m_calE hf
                            have h_o18 := eqt_t h_o17 (fq_X5_hasSoundRights ho)
                            clear ho
                            rcases m_ifE hf with ⟨-, hf⟩ | ⟨-, hf⟩
                            ·
                              exact eqt_t h_o18 (fq_X5_readInto_145  hf)
                            ·
                              obtain ⟨o19, ho, hf⟩ := m_calE hf
                              have h_o19 := eqt_t h_o18 (fq_X5_hasSoundPassed ho)
                              clear ho
                              rcases m_ifE hf with ⟨-, hf⟩ | ⟨-, hf⟩
                              ·
                                exact eqt_t h_o19 (fq_X5_readInto_145  hf)
                              ·
                                exact eqt_t h_o19 (fq_X5_readInto_146  hf)
                        ·
                          exact eqt_t h_o16 (fq_X5_readInto_145  hf)
theorem fq_X5_readInto {o : Int32 × ZS} {x0 : Nat} {x1 : Nat} {x2 : Nat} {S : ZS}  (hf : f_X5_readInto x0 x1 x2 S = some o)   : EqT S o.2 := by
  have h_S : EqT S S := eqt_0
  unfold f_X5_readInto at hf
  exact eqt_t h_S (fq_X5_readInto_0  hf)
theorem fq_X6_indexOf_30 {o : Int32 × ZS} {x3 : Int32} {S : ZS}  (hf : f_X6_indexOf_30 x3 S = some o)   : EqT S o.2 := by
  have h_S : EqT S S := eqt_0
  unfold f_X6_indexOf_30 at hf
  cases hf
  exact h_S
theorem fq_X6_indexOf_6s {o : Int32 × ZS} {self6 : Nat → Int32 → Int32 → ZS → Option (Int32 × ZS)} {x0 : Nat} {x1 : Int32} {x3 : Int32} {S : ZS} (hself6 : ∀ (z0 : Nat) (z1 : Int32) (z2 : Int32) (S : ZS) (o : Int32 × ZS), self6 z0 z1 z2 S = some o → EqT S o.2) (hf : f_X6_indexOf_6s self6 x0 x1 x3 S = some o)   : EqT S o.2 := by
  have h_S : EqT S S := eqt_0
  unfold f_X6_indexOf_6s at hf
  obtain ⟨q1, hf⟩ := m_chkE hf
  rcases m_ifE hf with ⟨-, hf⟩ | ⟨-, hf⟩
  ·
    exact eqt_t h_S (fq_X6_indexOf_30  hf)
  ·
    obtain ⟨q2, hf⟩ := m_chkE hf
    obtain ⟨b1, -, hf⟩ := m_calE hf
    obtain ⟨q3, hf⟩ := m_chkE hf
    obtain ⟨-, hf⟩ := m_chkE hf
    obtain ⟨v2, e4, hf⟩ := m_bndE hf
    rcases m_ifE hf with ⟨-, hf⟩ | ⟨-, hf⟩
    ·
      exact eqt_t h_S (fq_X6_indexOf_30  hf)
    ·
      obtain ⟨v3, e5, hf⟩ := m_bndE hf
      exact eqt_t h_S (hself6 _ _ _ _ _ hf)
theorem fq_X6_indexOf_6   (n : Nat) : ∀ (y0 : Nat) (y1 : Int32) (y2 : Int32) (S : ZS) (o : Int32 × ZS), f_X6_indexOf_6  n y0 y1 y2 S = some o → EqT S o.2 := by
  induction n with
  | zero => intro y0 y1 y2 S o hf; cases hf
  | succ n ih => intro y0 y1 y2 S o hf; exact fq_X6_indexOf_6s  ih hf
theorem fq_X6_indexOf_0 {o : Int32 × ZS} {x0 : Nat} {x1 : Int32} {x2 : Int32} {S : ZS}  (hf : f_X6_indexOf_0 x0 x1 x2 S = some o)   : EqT S o.2 := by
  have h_S : EqT S S := eqt_0
  unfold f_X6_indexOf_0 at hf
  obtain ⟨v1, e1, hf⟩ := m_bndE hf
  exact eqt_t h_S (fq_X6_indexOf_6  _ _ _ _ _ _ hf)
theorem fq_X6_indexOf {o : Int32 × ZS} {x0 : Nat} {x1 : Int32} {x2 : Int32} {S : ZS}  (hf : f_X6_indexOf x0 x1 x2 S = some o)   : EqT S o.2 := by
  have h_S : EqT S S := eqt_0
  unfold f_X6_indexOf at hf
  exact eqt_t h_S (fq_X6_indexOf_0  hf)
theorem fq_X2_resultHere_2s {o : Int32 × ZS} {self2 : Nat → Int32 → ZS → Option (Int32 × ZS)} {x0 : Nat} {x1 : Int32} {S : ZS} (hself2 : ∀ (z0 : Nat) (z1 : Int32) (S : ZS) (o : Int32 × ZS), self2 z0 z1 S = some o → EqT S o.2) (hf : f_X2_resultHere_2s self2 x0 x1 S = some o)   : EqT S o.2 := by
  have h_S : EqT S S := eqt_0
  unfold f_X2_resultHere_2s at hf
  rcases m_ifE hf with ⟨-, hf⟩ | ⟨-, hf⟩
  ·
    cases hf
    exact h_S
  ·
    obtain ⟨q1, hf⟩ := m_chkE hf
    obtain ⟨b1, -, hf⟩ := m_calE hf
    obtain ⟨o2, ho, hf⟩ := m_calE hf
    have h_o2 := eqt_t h_S (fq_X11_resultSign ho)
    clear ho
    obtain ⟨q2, hf⟩ := m_chkE hf
    obtain ⟨q3, hf⟩ := m_chkE hf
    obtain ⟨o3, ho, hf⟩ := m_calE hf
    have h_o3 := eqt_t h_o2 (fq_X6_holds ho)
    clear ho
    rcases m_ifE hf with ⟨-, hf⟩ | ⟨-, hf⟩
    ·
      obtain ⟨v4, e4, hf⟩ := m_bndE hf
      exact eqt_t h_o3 (hself2 _ _ _ _ hf)
    ·
      cases hf
      exact h_o3
theorem fq_X2_resultHere_2   (n : Nat) : ∀ (y0 : Nat) (y1 : Int32) (S : ZS) (o : Int32 × ZS), f_X2_resultHere_2  n y0 y1 S = some o → EqT S o.2 := by
  induction n with
  | zero => intro y0 y1 S o hf; cases hf
  | succ n ih => intro y0 y1 S o hf; exact fq_X2_resultHere_2s  ih hf
theorem fq_X2_resultHere_0 {o : Int32 × ZS} {x0 : Nat} {S : ZS}  (hf : f_X2_resultHere_0 x0 S = some o)   : EqT S o.2 := by
  have h_S : EqT S S := eqt_0
  unfold f_X2_resultHere_0 at hf
  exact eqt_t h_S (fq_X2_resultHere_2  _ _ _ _ _ hf)
theorem fq_X2_resultHere {o : Int32 × ZS} {x0 : Nat} {S : ZS}  (hf : f_X2_resultHere x0 S = some o)   : EqT S o.2 := by
  have h_S : EqT S S := eqt_0
  unfold f_X2_resultHere at hf
  exact eqt_t h_S (fq_X2_resultHere_0  hf)
theorem fq_X2_openLine_0 {o : Int32 × ZS} {x0 : Nat} {x1 : Int32} {S : ZS}  (hf : f_X2_openLine_0 x0 x1 S = some o)   : EqT S o.2 := by
  have h_S : EqT S S := eqt_0
  unfold f_X2_openLine_0 at hf
  obtain ⟨q1, hf⟩ := m_chkE hf
  obtain ⟨b1, -, hf⟩ := m_calE hf
  obtain ⟨q2, hf⟩ := m_chkE hf
  obtain ⟨b2, -, hf⟩ := m_calE hf
  obtain ⟨q3, hf⟩ := m_chkE hf
  obtain ⟨b3, -, hf⟩ := m_calE hf
  obtain ⟨v4, e4, hf⟩ := m_bndE hf
  obtain ⟨q5, hf⟩ := m_chkE hf
  obtain ⟨-, hf⟩ := m_chkE hf
  obtain ⟨v5, e6, hf⟩ := m_bndE hf
  obtain ⟨q7, hf⟩ := m_chkE hf
  obtain ⟨o6, ho, hf⟩ := m_calE hf
  have h_o6 := eqt_t h_S (fq_X1_at ho)
  clear ho
  obtain ⟨q8, hf⟩ := m_chkE hf
  obtain ⟨q9, hf⟩ := m_chkE hf
  obtain ⟨-, hf⟩ := m_chkE hf
  obtain ⟨S7, e10, hf⟩ := m_bndE hf
  have h_S7 := eqt_A h_o6 e10
  obtain ⟨q11, hf⟩ := m_chkE hf
  obtain ⟨b8, -, hf⟩ := m_calE hf
  obtain ⟨q12, hf⟩ := m_chkE hf
  obtain ⟨b9, -, hf⟩ := m_calE hf
  obtain ⟨q13, hf⟩ := m_chkE hf
  obtain ⟨-, hf⟩ := m_chkE hf
  obtain ⟨v10, e14, hf⟩ := m_bndE hf
  obtain ⟨q15, hf⟩ := m_chkE hf
  obtain ⟨-, hf⟩ := m_chkE hf
  obtain ⟨S11, e16, hf⟩ := m_bndE hf
  have h_S11 := eqt_A h_S7 e16
  obtain ⟨q17, hf⟩ := m_chkE hf
  obtain ⟨b12, -, hf⟩ := m_calE hf
  obtain ⟨q18, hf⟩ := m_chkE hf
  obtain ⟨-, hf⟩ := m_chkE hf
  obtain ⟨b13, -, hf⟩ := m_calE hf
  obtain ⟨q19, hf⟩ := m_chkE hf
  obtain ⟨b14, -, hf⟩ := m_calE hf
  obtain ⟨v15, e20, hf⟩ := m_bndE hf
  obtain ⟨q21, hf⟩ := m_chkE hf
  obtain ⟨-, hf⟩ := m_chkE hf
  obtain ⟨b16, -, hf⟩ := m_calE hf
  obtain ⟨q22, hf⟩ := m_chkE hf
  obtain ⟨o17, ho, hf⟩ := m_calE hf
  have h_o17 := eqt_t h_S11 (fq_X0_copyFrom ho)
  clear ho
  obtain ⟨q23, hf⟩ := m_chkE hf
  obtain ⟨v18, e24, hf⟩ := m_bndE hf
  obtain ⟨q25, hf⟩ := m_chkE hf
  obtain ⟨S19, e26, hf⟩ := m_bndE hf
  have h_S19 := eqt_I h_o17 e26
  cases hf
  exact h_S19
theorem fq_X2_openLine {o : Int32 × ZS} {x0 : Nat} {x1 : Int32} {S : ZS}  (hf : f_X2_openLine x0 x1 S = some o)   : EqT S o.2 := by
  have h_S : EqT S S := eqt_0
  unfold f_X2_openLine at hf
  exact eqt_t h_S (fq_X2_openLine_0  hf)
theorem fq_X2_readDigits_67 {o : Int32 × ZS} {x3 : Int32} {S : ZS}  (hf : f_X2_readDigits_67 x3 S = some o)   : EqT S o.2 := by
  have h_S : EqT S S := eqt_0
  unfold f_X2_readDigits_67 at hf
  cases hf
  exact h_S
theorem fq_X2_readDigits_9s {o : Int32 × ZS} {self9 : Nat → Int32 → Int32 → ZS → Option (Int32 × ZS)} {x0 : Nat} {x2 : Int32} {x3 : Int32} {S : ZS} (hself9 : ∀ (z0 : Nat) (z1 : Int32) (z2 : Int32) (S : ZS) (o : Int32 × ZS), self9 z0 z1 z2 S = some o → EqT S o.2) (hf : f_X2_readDigits_9s self9 x0 x2 x3 S = some o)   : EqT S o.2 := by
  have h_S : EqT S S := eqt_0
  unfold f_X2_readDigits_9s at hf
  obtain ⟨q1, hf⟩ := m_chkE hf
  rcases m_ifE hf with ⟨-, hf⟩ | ⟨-, hf⟩
  ·
    exact eqt_t h_S (fq_X2_readDigits_67  hf)
  ·
    obtain ⟨q2, hf⟩ := m_chkE hf
    obtain ⟨b1, -, hf⟩ := m_calE hf
    obtain ⟨q3, hf⟩ := m_chkE hf
    obtain ⟨q4, hf⟩ := m_chkE hf
    obtain ⟨o2, ho, hf⟩ := m_calE hf
    have h_o2 := eqt_t h_S (fq_X6_at ho)
    clear ho
    obtain ⟨o3, ho, hf⟩ := m_calE hf
    have h_o3 := eqt_t h_o2 (fq_X11_isDigit ho)
    clear ho
    rcases m_ifE hf with ⟨-, hf⟩ | ⟨-, hf⟩
    ·
      exact eqt_t h_o3 (fq_X2_readDigits_67  hf)
    ·
      obtain ⟨v4, e5, hf⟩ := m_bndE hf
      obtain ⟨q6, hf⟩ := m_chkE hf
      obtain ⟨b5, -, hf⟩ := m_calE hf
      obtain ⟨q7, hf⟩ := m_chkE hf
      obtain ⟨q8, hf⟩ := m_chkE hf
      obtain ⟨o6, ho, hf⟩ := m_calE hf
      have h_o6 := eqt_t h_o3 (fq_X6_at ho)
      clear ho
      obtain ⟨v7, e9, hf⟩ := m_bndE hf
      obtain ⟨v8, e10, hf⟩ := m_bndE hf
      obtain ⟨q11, hf⟩ := m_chkE hf
      obtain ⟨v9, e12, hf⟩ := m_bndE hf
      obtain ⟨q13, hf⟩ := m_chkE hf
      obtain ⟨S10, e14, hf⟩ := m_bndE hf
      have h_S10 := eqt_I h_o6 e14
      exact eqt_t h_S10 (hself9 _ _ _ _ _ hf)
theorem fq_X2_readDigits_9   (n : Nat) : ∀ (y0 : Nat) (y1 : Int32) (y2 : Int32) (S : ZS) (o : Int32 × ZS), f_X2_readDigits_9  n y0 y1 y2 S = some o → EqT S o.2 := by
  induction n with
  | zero => intro y0 y1 y2 S o hf; cases hf
  | succ n ih => intro y0 y1 y2 S o hf; exact fq_X2_readDigits_9s  ih hf
theorem fq_X2_readDigits_0 {o : Int32 × ZS} {x0 : Nat} {x1 : Int32} {S : ZS}  (hf : f_X2_readDigits_0 x0 x1 S = some o)   : EqT S o.2 := by
  have h_S : EqT S S := eqt_0
  unfold f_X2_readDigits_0 at hf
  obtain ⟨q1, hf⟩ := m_chkE hf
  obtain ⟨v1, e2, hf⟩ := m_bndE hf
  exact eqt_t h_S (fq_X2_readDigits_9  _ _ _ _ _ _ hf)
theorem fq_X2_readDigits {o : Int32 × ZS} {x0 : Nat} {x1 : Int32} {S : ZS}  (hf : f_X2_readDigits x0 x1 S = some o)   : EqT S o.2 := by
  have h_S : EqT S S := eqt_0
  unfold f_X2_readDigits at hf
  exact eqt_t h_S (fq_X2_readDigits_0  hf)
theorem fq_X2_readNumber_78 {o : Int32 × ZS} {t0 : Int32} {S : ZS}  (hf : f_X2_readNumber_78 t0 S = some o)   : EqT S o.2 := by
  have h_S : EqT S S := eqt_0
  unfold f_X2_readNumber_78 at hf
  obtain ⟨-, hf⟩ := m_chkE hf
  cases hf
  exact h_S
theorem fq_X2_readNumber_73 {o : Int32 × ZS} {S : ZS}  (hf : f_X2_readNumber_73 S = some o)   : EqT S o.2 := by
  have h_S : EqT S S := eqt_0
  unfold f_X2_readNumber_73 at hf
  exact eqt_t h_S (fq_X2_readNumber_78  hf)
theorem fq_X2_readNumber_54 {o : Int32 × ZS} {x0 : Nat} {x1 : Int32} {x2 : Int32} {x3 : Int32} {S : ZS}  (hf : f_X2_readNumber_54 x0 x1 x2 x3 S = some o)   : EqT S o.2 := by
  have h_S : EqT S S := eqt_0
  unfold f_X2_readNumber_54 at hf
  obtain ⟨q1, hf⟩ := m_chkE hf
  obtain ⟨o1, ho, hf⟩ := m_calE hf
  have h_o1 := eqt_t h_S (fq_X2_skipBlanks ho)
  clear ho
  rcases m_ifE hf with ⟨-, hf⟩ | ⟨-, hf⟩
  ·
    exact eqt_t h_o1 (fq_X2_readNumber_73  hf)
  ·
    obtain ⟨q2, hf⟩ := m_chkE hf
    obtain ⟨o2, ho, hf⟩ := m_calE hf
    have h_o2 := eqt_t h_o1 (fq_X2_refuse ho)
    clear ho
    rcases m_ifE hf with ⟨-, hf⟩ | ⟨-, hf⟩
    ·
      exact eqt_t h_o2 (fq_X2_readNumber_78  hf)
    ·
      exact eqt_t h_o2 (fq_X2_readNumber_73  hf)
theorem fq_X2_readNumber_11s {o : Int32 × ZS} {self11 : Nat → Int32 → Int32 → Int32 → ZS → Option (Int32 × ZS)} {x0 : Nat} {x1 : Int32} {x2 : Int32} {x3 : Int32} {S : ZS} (hself11 : ∀ (z0 : Nat) (z1 : Int32) (z2 : Int32) (z3 : Int32) (S : ZS) (o : Int32 × ZS), self11 z0 z1 z2 z3 S = some o → EqT S o.2) (hf : f_X2_readNumber_11s self11 x0 x1 x2 x3 S = some o)   : EqT S o.2 := by
  have h_S : EqT S S := eqt_0
  unfold f_X2_readNumber_11s at hf
  obtain ⟨q1, hf⟩ := m_chkE hf
  obtain ⟨q2, hf⟩ := m_chkE hf
  obtain ⟨b1, -, hf⟩ := m_calE hf
  obtain ⟨q3, hf⟩ := m_chkE hf
  obtain ⟨o2, ho, hf⟩ := m_calE hf
  have h_o2 := eqt_t h_S (fq_X6_size ho)
  clear ho
  rcases m_ifE hf with ⟨-, hf⟩ | ⟨-, hf⟩
  ·
    exact eqt_t h_o2 (fq_X2_readNumber_54  hf)
  ·
    obtain ⟨q4, hf⟩ := m_chkE hf
    obtain ⟨b3, -, hf⟩ := m_calE hf
    obtain ⟨q5, hf⟩ := m_chkE hf
    obtain ⟨q6, hf⟩ := m_chkE hf
    obtain ⟨o4, ho, hf⟩ := m_calE hf
    have h_o4 := eqt_t h_o2 (fq_X6_at ho)
    clear ho
    rcases m_ifE hf with ⟨-, hf⟩ | ⟨-, hf⟩
    ·
      obtain ⟨q7, hf⟩ := m_chkE hf
      obtain ⟨v5, e8, hf⟩ := m_bndE hf
      obtain ⟨q9, hf⟩ := m_chkE hf
      obtain ⟨S6, e10, hf⟩ := m_bndE hf
      have h_S6 := eqt_I h_o4 e10
      exact eqt_t h_S6 (hself11 _ _ _ _ _ _ hf)
    ·
      exact eqt_t h_o4 (fq_X2_readNumber_54  hf)
theorem fq_X2_readNumber_11   (n : Nat) : ∀ (y0 : Nat) (y1 : Int32) (y2 : Int32) (y3 : Int32) (S : ZS) (o : Int32 × ZS), f_X2_readNumber_11  n y0 y1 y2 y3 S = some o → EqT S o.2 := by
  induction n with
  | zero => intro y0 y1 y2 y3 S o hf; cases hf
  | succ n ih => intro y0 y1 y2 y3 S o hf; exact fq_X2_readNumber_11s  ih hf
theorem fq_X2_readNumber_0 {o : Int32 × ZS} {x0 : Nat} {x1 : Int32} {S : ZS}  (hf : f_X2_readNumber_0 x0 x1 S = some o)   : EqT S o.2 := by
  have h_S : EqT S S := eqt_0
  unfold f_X2_readNumber_0 at hf
  obtain ⟨q1, hf⟩ := m_chkE hf
  obtain ⟨q2, hf⟩ := m_chkE hf
  obtain ⟨o1, ho, hf⟩ := m_calE hf
  have h_o1 := eqt_t h_S (fq_X2_readDigits ho)
  clear ho
  exact eqt_t h_o1 (fq_X2_readNumber_11  _ _ _ _ _ _ _ hf)
theorem fq_X2_readNumber {o : Int32 × ZS} {x0 : Nat} {x1 : Int32} {S : ZS}  (hf : f_X2_readNumber x0 x1 S = some o)   : EqT S o.2 := by
  have h_S : EqT S S := eqt_0
  unfold f_X2_readNumber at hf
  exact eqt_t h_S (fq_X2_readNumber_0  hf)
theorem fq_X2_isSign_43 {o : Int32 × ZS} {t0 : Int32} {S : ZS}  (hf : f_X2_isSign_43 t0 S = some o)   : EqT S o.2 := by
  have h_S : EqT S S := eqt_0
  unfold f_X2_isSign_43 at hf
  obtain ⟨-, hf⟩ := m_chkE hf
  cases hf
  exact h_S
theorem fq_X2_isSign_38 {o : Int32 × ZS} {S : ZS}  (hf : f_X2_isSign_38 S = some o)   : EqT S o.2 := by
  have h_S : EqT S S := eqt_0
  unfold f_X2_isSign_38 at hf
  exact eqt_t h_S (fq_X2_isSign_43  hf)
theorem fq_X2_isSign_0 {o : Int32 × ZS} {x0 : Int32} {S : ZS}  (hf : f_X2_isSign_0 x0 S = some o)   : EqT S o.2 := by
  have h_S : EqT S S := eqt_0
  unfold f_X2_isSign_0 at hf
  obtain ⟨o1, ho, hf⟩ := m_calE hf
  have h_o1 := eqt_t h_S (fq_X11_isLetter ho)
  clear ho
  rcases m_ifE hf with ⟨-, hf⟩ | ⟨-, hf⟩
  ·
    obtain ⟨o2, ho, hf⟩ := m_calE hf
    have h_o2 := eqt_t h_o1 (fq_X11_isDigit ho)
    clear ho
    rcases m_ifE hf with ⟨-, hf⟩ | ⟨-, hf⟩
    ·
      rcases m_ifE hf with ⟨-, hf⟩ | ⟨-, hf⟩
      ·
        exact eqt_t h_o2 (fq_X2_isSign_38  hf)
      ·
        rcases m_ifE hf with ⟨-, hf⟩ | ⟨-, hf⟩
        ·
          exact eqt_t h_o2 (fq_X2_isSign_38  hf)
        ·
          rcases m_ifE hf with ⟨-, hf⟩ | ⟨-, hf⟩
          ·
            exact eqt_t h_o2 (fq_X2_isSign_38  hf)
          ·
            rcases m_ifE hf with ⟨-, hf⟩ | ⟨-, hf⟩
            ·
              exact eqt_t h_o2 (fq_X2_isSign_38  hf)
            ·
              exact eqt_t h_o2 (fq_X2_isSign_43  hf)
    ·
      exact eqt_t h_o2 (fq_X2_isSign_38  hf)
  ·
    exact eqt_t h_o1 (fq_X2_isSign_38  hf)
theorem fq_X2_isSign {o : Int32 × ZS} {x0 : Int32} {S : ZS}  (hf : f_X2_isSign x0 S = some o)   : EqT S o.2 := by
  have h_S : EqT S S := eqt_0
  unfold f_X2_isSign at hf
  exact eqt_t h_S (fq_X2_isSign_0  hf)
theorem fq_X2_skipSigns_44 {o : Int32 × ZS} {S : ZS}  (hf : f_X2_skipSigns_44 S = some o)   : EqT S o.2 := by
  have h_S : EqT S S := eqt_0
  unfold f_X2_skipSigns_44 at hf
  cases hf
  exact h_S
theorem fq_X2_skipSigns_0s {o : Int32 × ZS} {self0 : Nat → ZS → Option (Int32 × ZS)} {x0 : Nat} {S : ZS} (hself0 : ∀ (z0 : Nat) (S : ZS) (o : Int32 × ZS), self0 z0 S = some o → EqT S o.2) (hf : f_X2_skipSigns_0s self0 x0 S = some o)   : EqT S o.2 := by
  have h_S : EqT S S := eqt_0
  unfold f_X2_skipSigns_0s at hf
  obtain ⟨q1, hf⟩ := m_chkE hf
  obtain ⟨q2, hf⟩ := m_chkE hf
  obtain ⟨b1, -, hf⟩ := m_calE hf
  obtain ⟨q3, hf⟩ := m_chkE hf
  obtain ⟨o2, ho, hf⟩ := m_calE hf
  have h_o2 := eqt_t h_S (fq_X6_size ho)
  clear ho
  rcases m_ifE hf with ⟨-, hf⟩ | ⟨-, hf⟩
  ·
    exact eqt_t h_o2 (fq_X2_skipSigns_44  hf)
  ·
    obtain ⟨q4, hf⟩ := m_chkE hf
    obtain ⟨b3, -, hf⟩ := m_calE hf
    obtain ⟨q5, hf⟩ := m_chkE hf
    obtain ⟨q6, hf⟩ := m_chkE hf
    obtain ⟨o4, ho, hf⟩ := m_calE hf
    have h_o4 := eqt_t h_o2 (fq_X6_at ho)
    clear ho
    obtain ⟨o5, ho, hf⟩ := m_calE hf
    have h_o5 := eqt_t h_o4 (fq_X2_isSign ho)
    clear ho
    rcases m_ifE hf with ⟨-, hf⟩ | ⟨-, hf⟩
    ·
      exact eqt_t h_o5 (fq_X2_skipSigns_44  hf)
    ·
      obtain ⟨q7, hf⟩ := m_chkE hf
      obtain ⟨v6, e8, hf⟩ := m_bndE hf
      obtain ⟨q9, hf⟩ := m_chkE hf
      obtain ⟨S7, e10, hf⟩ := m_bndE hf
      have h_S7 := eqt_I h_o5 e10
      exact eqt_t h_S7 (hself0 _ _ _ hf)
theorem fq_X2_skipSigns_0   (n : Nat) : ∀ (y0 : Nat) (S : ZS) (o : Int32 × ZS), f_X2_skipSigns_0  n y0 S = some o → EqT S o.2 := by
  induction n with
  | zero => intro y0 S o hf; cases hf
  | succ n ih => intro y0 S o hf; exact fq_X2_skipSigns_0s  ih hf
theorem fq_X2_skipSigns {o : Int32 × ZS} {x0 : Nat} {S : ZS}  (hf : f_X2_skipSigns x0 S = some o)   : EqT S o.2 := by
  have h_S : EqT S S := eqt_0
  unfold f_X2_skipSigns at hf
  exact eqt_t h_S (fq_X2_skipSigns_0  _ _ _ _ hf)
theorem fq_X11_kindOf_0 {o : Int32 × ZS} {x0 : Int32} {S : ZS}  (hf : f_X11_kindOf_0 x0 S = some o)   : EqT S o.2 := by
  have h_S : EqT S S := eqt_0
  unfold f_X11_kindOf_0 at hf
  obtain ⟨-, hf⟩ := m_chkE hf
  obtain ⟨o1, ho, hf⟩ := m_calE hf
  have h_o1 := eqt_t h_S (fq_J0_indexOf_0f7a4 ho)
  clear ho
  obtain ⟨v2, e1, hf⟩ := m_bndE hf
  cases hf
  exact h_o1
theorem fq_X11_kindOf {o : Int32 × ZS} {x0 : Int32} {S : ZS}  (hf : f_X11_kindOf x0 S = some o)   : EqT S o.2 := by
  have h_S : EqT S S := eqt_0
  unfold f_X11_kindOf at hf
  exact eqt_t h_S (fq_X11_kindOf_0  hf)
theorem fq_X8_parseApart_104 {o : Int32 × ZS} {t0 : Int32} {S : ZS}  (hf : f_X8_parseApart_104 t0 S = some o)   : EqT S o.2 := by
  have h_S : EqT S S := eqt_0
  unfold f_X8_parseApart_104 at hf
  obtain ⟨-, hf⟩ := m_chkE hf
  cases hf
  exact h_S
theorem fq_X8_parseApart_94 {o : Int32 × ZS} {x2 : Int32} {x3 : Int32} {S : ZS}  (hf : f_X8_parseApart_94 x2 x3 S = some o)   : EqT S o.2 := by
  have h_S : EqT S S := eqt_0
  unfold f_X8_parseApart_94 at hf
  rcases m_ifE hf with ⟨-, hf⟩ | ⟨-, hf⟩
  ·
    exact eqt_t h_S (fq_X8_parseApart_104  hf)
  ·
    exact eqt_t h_S (fq_X8_parseApart_104  hf)
theorem fq_X8_parseApart_49 {o : Int32 × ZS} {x0 : Nat} {x2 : Int32} {x3 : Int32} {S : ZS}  (hf : f_X8_parseApart_49 x0 x2 x3 S = some o)   : EqT S o.2 := by
  have h_S : EqT S S := eqt_0
  unfold f_X8_parseApart_49 at hf
  rcases m_ifE hf with ⟨-, hf⟩ | ⟨-, hf⟩
  ·
    exact eqt_t h_S (fq_X8_parseApart_94  hf)
  ·
    obtain ⟨q1, hf⟩ := m_chkE hf
    rcases m_ifE hf with ⟨-, hf⟩ | ⟨-, hf⟩
    ·
      exact eqt_t h_S (fq_X8_parseApart_94  hf)
    ·
      obtain ⟨q2, hf⟩ := m_chkE hf
      obtain ⟨b1, -, hf⟩ := m_calE hf
      obtain ⟨q3, hf⟩ := m_chkE hf
      obtain ⟨o2, ho, hf⟩ := m_calE hf
      have h_o2 := eqt_t h_S (fq_X6_at ho)
      clear ho
      obtain ⟨o3, ho, hf⟩ := m_calE hf
      have h_o3 := eqt_t h_o2 (fq_X11_isRank ho)
      clear ho
      rcases m_ifE hf with ⟨-, hf⟩ | ⟨-, hf⟩
      ·
        exact eqt_t h_o3 (fq_X8_parseApart_94  hf)
      ·
        obtain ⟨q4, hf⟩ := m_chkE hf
        obtain ⟨b4, -, hf⟩ := m_calE hf
        obtain ⟨q5, hf⟩ := m_chkE hf
        obtain ⟨o5, ho, hf⟩ := m_calE hf
        have h_o5 := eqt_t h_o3 (fq_X6_at ho)
        clear ho
        obtain ⟨v6, e6, hf⟩ := m_bndE hf
        obtain ⟨q7, hf⟩ := m_chkE hf
        obtain ⟨S7, e8, hf⟩ := m_bndE hf
        have h_S7 := eqt_I h_o5 e8
        obtain ⟨v8, e9, hf⟩ := m_bndE hf
        exact eqt_t h_S7 (fq_X8_parseApart_94  hf)
theorem fq_X8_parseApart_0 {o : Int32 × ZS} {x0 : Nat} {x1 : Int32} {x2 : Int32} {S : ZS}  (hf : f_X8_parseApart_0 x0 x1 x2 S = some o)   : EqT S o.2 := by
  have h_S : EqT S S := eqt_0
  unfold f_X8_parseApart_0 at hf
  obtain ⟨q1, hf⟩ := m_chkE hf
  obtain ⟨S1, e2, hf⟩ := m_bndE hf
  have h_S1 := eqt_I h_S e2
  obtain ⟨q3, hf⟩ := m_chkE hf
  obtain ⟨S2, e4, hf⟩ := m_bndE hf
  have h_S2 := eqt_I h_S1 e4
  rcases m_ifE hf with ⟨-, hf⟩ | ⟨-, hf⟩
  ·
    exact eqt_t h_S2 (fq_X8_parseApart_49  hf)
  ·
    obtain ⟨q5, hf⟩ := m_chkE hf
    obtain ⟨b3, -, hf⟩ := m_calE hf
    obtain ⟨q6, hf⟩ := m_chkE hf
    obtain ⟨o4, ho, hf⟩ := m_calE hf
    have h_o4 := eqt_t h_S2 (fq_X6_at ho)
    clear ho
    obtain ⟨o5, ho, hf⟩ := m_calE hf
    have h_o5 := eqt_t h_o4 (fq_X11_isFile ho)
    clear ho
    rcases m_ifE hf with ⟨-, hf⟩ | ⟨-, hf⟩
    ·
      exact eqt_t h_o5 (fq_X8_parseApart_49  hf)
    ·
      obtain ⟨q7, hf⟩ := m_chkE hf
      obtain ⟨b6, -, hf⟩ := m_calE hf
      obtain ⟨q8, hf⟩ := m_chkE hf
      obtain ⟨o7, ho, hf⟩ := m_calE hf
      have h_o7 := eqt_t h_o5 (fq_X6_at ho)
      clear ho
      obtain ⟨v8, e9, hf⟩ := m_bndE hf
      obtain ⟨q10, hf⟩ := m_chkE hf
      obtain ⟨S9, e11, hf⟩ := m_bndE hf
      have h_S9 := eqt_I h_o7 e11
      obtain ⟨v10, e12, hf⟩ := m_bndE hf
      exact eqt_t h_S9 (fq_X8_parseApart_49  hf)
theorem fq_X8_parseApart {o : Int32 × ZS} {x0 : Nat} {x1 : Int32} {x2 : Int32} {S : ZS}  (hf : f_X8_parseApart x0 x1 x2 S = some o)   : EqT S o.2 := by
  have h_S : EqT S S := eqt_0
  unfold f_X8_parseApart at hf
  exact eqt_t h_S (fq_X8_parseApart_0  hf)
theorem fq_X8_parse_232 {o : Int32 × ZS} {x0 : Nat} {x1 : Int32} {x2 : Int32} {t0 : Int32} {t1 : Nat} {S : ZS}  (hf : f_X8_parse_232 x0 x1 x2 t0 t1 S = some o)   : EqT S o.2 := by
  have h_S : EqT S S := eqt_0
  unfold f_X8_parse_232 at hf
  obtain ⟨q1, hf⟩ := m_chkE hf
  obtain ⟨S1, e2, hf⟩ := m_bndE hf
  have h_S1 := eqt_I h_S e2
  obtain ⟨q3, hf⟩ := m_chkE hf
  obtain ⟨v2, e4, hf⟩ := m_bndE hf
  obtain ⟨q5, hf⟩ := m_chkE hf
  obtain ⟨o3, ho, hf⟩ := m_calE hf
  have h_o3 := eqt_t h_S1 (fq_X8_parseApart ho)
  clear ho
  obtain ⟨-, hf⟩ := m_chkE hf
  cases hf
  exact h_o3
theorem fq_X8_parse_231 {o : Int32 × ZS} {x0 : Nat} {x1 : Int32} {x2 : Int32} {t0 : Nat} {S : ZS}  (hf : f_X8_parse_231 x0 x1 x2 t0 S = some o)   : EqT S o.2 := by
  have h_S : EqT S S := eqt_0
  unfold f_X8_parse_231 at hf
  exact eqt_t h_S (fq_X8_parse_232  hf)
theorem fq_X8_parse_166 {o : Int32 × ZS} {x0 : Nat} {x1 : Int32} {x2 : Int32} {S : ZS}  (hf : f_X8_parse_166 x0 x1 x2 S = some o)   : EqT S o.2 := by
  have h_S : EqT S S := eqt_0
  unfold f_X8_parse_166 at hf
  obtain ⟨q1, hf⟩ := m_chkE hf
  obtain ⟨b1, -, hf⟩ := m_calE hf
  obtain ⟨v2, e2, hf⟩ := m_bndE hf
  obtain ⟨q3, hf⟩ := m_chkE hf
  obtain ⟨o3, ho, hf⟩ := m_calE hf
  have h_o3 := eqt_t h_S (fq_X6_at ho)
  clear ho
  obtain ⟨q4, hf⟩ := m_chkE hf
  obtain ⟨b4, -, hf⟩ := m_calE hf
  obtain ⟨v5, e5, hf⟩ := m_bndE hf
  obtain ⟨q6, hf⟩ := m_chkE hf
  obtain ⟨o6, ho, hf⟩ := m_calE hf
  have h_o6 := eqt_t h_o3 (fq_X6_at ho)
  clear ho
  obtain ⟨o7, ho, hf⟩ := m_calE hf
  have h_o7 := eqt_t h_o6 (fq_X11_squareOf ho)
  clear ho
  obtain ⟨q7, hf⟩ := m_chkE hf
  obtain ⟨S8, e8, hf⟩ := m_bndE hf
  have h_S8 := eqt_I h_o7 e8
  obtain ⟨v9, e9, hf⟩ := m_bndE hf
  obtain ⟨q10, hf⟩ := m_chkE hf
  rcases m_ifE hf with ⟨-, hf⟩ | ⟨-, hf⟩
  ·
    obtain ⟨-, hf⟩ := m_chkE hf
    cases hf
    exact h_S8
  ·
    rcases m_ifE hf with ⟨-, hf⟩ | ⟨-, hf⟩
    ·
      exact eqt_t h_S8 (fq_X8_parse_231  hf)
    ·
      obtain ⟨q11, hf⟩ := m_chkE hf
      obtain ⟨b10, -, hf⟩ := m_calE hf
      obtain ⟨v11, e12, hf⟩ := m_bndE hf
      obtain ⟨q13, hf⟩ := m_chkE hf
      obtain ⟨o12, ho, hf⟩ := m_calE hf
      have h_o12 := eqt_t h_S8 (fq_X6_at ho)
      clear ho
      rcases m_ifE hf with ⟨-, hf⟩ | ⟨-, hf⟩
      ·
        exact eqt_t h_o12 (fq_X8_parse_232  hf)
      ·
        exact eqt_t h_o12 (fq_X8_parse_231  hf)
theorem fq_X8_parse_161 {o : Int32 × ZS} {S : ZS}  (hf : f_X8_parse_161 S = some o)   : EqT S o.2 := by
  have h_S : EqT S S := eqt_0
  unfold f_X8_parse_161 at hf
  obtain ⟨-, hf⟩ := m_chkE hf
  cases hf
  exact h_S
theorem fq_X8_parse_102 {o : Int32 × ZS} {x0 : Nat} {x1 : Int32} {x2 : Int32} {t0 : Int32} {t1 : Nat} {S : ZS}  (hf : f_X8_parse_102 x0 x1 x2 t0 t1 S = some o)   : EqT S o.2 := by
  have h_S : EqT S S := eqt_0
  unfold f_X8_parse_102 at hf
  obtain ⟨q1, hf⟩ := m_chkE hf
  obtain ⟨S1, e2, hf⟩ := m_bndE hf
  have h_S1 := eqt_I h_S e2
  obtain ⟨q3, hf⟩ := m_chkE hf
  rcases m_ifE hf with ⟨-, hf⟩ | ⟨-, hf⟩
  ·
    obtain ⟨q4, hf⟩ := m_chkE hf
    obtain ⟨b2, -, hf⟩ := m_calE hf
    obtain ⟨v3, e5, hf⟩ := m_bndE hf
    obtain ⟨q6, hf⟩ := m_chkE hf
    obtain ⟨o4, ho, hf⟩ := m_calE hf
    have h_o4 := eqt_t h_S1 (fq_X6_at ho)
    clear ho
    rcases m_ifE hf with ⟨-, hf⟩ | ⟨-, hf⟩
    ·
      obtain ⟨q7, hf⟩ := m_chkE hf
      obtain ⟨b5, -, hf⟩ := m_calE hf
      obtain ⟨v6, e8, hf⟩ := m_bndE hf
      obtain ⟨q9, hf⟩ := m_chkE hf
      obtain ⟨o7, ho, hf⟩ := m_calE hf
      have h_o7 := eqt_t h_o4 (fq_X6_at ho)
      clear ho
      obtain ⟨o8, ho, hf⟩ := m_calE hf
      have h_o8 := eqt_t h_o7 (fq_X11_kindOf ho)
      clear ho
      obtain ⟨q10, hf⟩ := m_chkE hf
      obtain ⟨S9, e11, hf⟩ := m_bndE hf
      have h_S9 := eqt_I h_o8 e11
      obtain ⟨q12, hf⟩ := m_chkE hf
      rcases m_ifE hf with ⟨-, hf⟩ | ⟨-, hf⟩
      ·
        exact eqt_t h_S9 (fq_X8_parse_161  hf)
      ·
        obtain ⟨q13, hf⟩ := m_chkE hf
        rcases m_ifE hf with ⟨-, hf⟩ | ⟨-, hf⟩
        ·
          obtain ⟨v10, e14, hf⟩ := m_bndE hf
          exact eqt_t h_S9 (fq_X8_parse_166  hf)
        ·
          exact eqt_t h_S9 (fq_X8_parse_161  hf)
    ·
      exact eqt_t h_o4 (fq_X8_parse_166  hf)
  ·
    exact eqt_t h_S1 (fq_X8_parse_166  hf)
theorem fq_X8_parse_72 {o : Int32 × ZS} {x0 : Nat} {t0 : Int32} {S : ZS}  (hf : f_X8_parse_72 x0 t0 S = some o)   : EqT S o.2 := by
  have h_S : EqT S S := eqt_0
  unfold f_X8_parse_72 at hf
  obtain ⟨q1, hf⟩ := m_chkE hf
  obtain ⟨b1, -, hf⟩ := m_calE hf
  obtain ⟨q2, hf⟩ := m_chkE hf
  obtain ⟨o2, ho, hf⟩ := m_calE hf
  have h_o2 := eqt_t h_S (fq_X6_size ho)
  clear ho
  rcases m_ifE hf with ⟨-, hf⟩ | ⟨-, hf⟩
  ·
    obtain ⟨q3, hf⟩ := m_chkE hf
    obtain ⟨b3, -, hf⟩ := m_calE hf
    obtain ⟨q4, hf⟩ := m_chkE hf
    obtain ⟨o4, ho, hf⟩ := m_calE hf
    have h_o4 := eqt_t h_o2 (fq_X6_at ho)
    clear ho
    obtain ⟨o5, ho, hf⟩ := m_calE hf
    have h_o5 := eqt_t h_o4 (fq_X11_kindOf ho)
    clear ho
    exact eqt_t h_o5 (fq_X8_parse_102  hf)
  ·
    exact eqt_t h_o2 (fq_X8_parse_102  hf)
theorem fq_X8_parse_40 {o : Int32 × ZS} {x0 : Nat} {t0 : Int32} {t1 : Nat} {S : ZS}  (hf : f_X8_parse_40 x0 t0 t1 S = some o)   : EqT S o.2 := by
  have h_S : EqT S S := eqt_0
  unfold f_X8_parse_40 at hf
  obtain ⟨q1, hf⟩ := m_chkE hf
  obtain ⟨S1, e2, hf⟩ := m_bndE hf
  have h_S1 := eqt_I h_S e2
  obtain ⟨q3, hf⟩ := m_chkE hf
  rcases m_ifE hf with ⟨-, hf⟩ | ⟨-, hf⟩
  ·
    obtain ⟨q4, hf⟩ := m_chkE hf
    obtain ⟨b2, -, hf⟩ := m_calE hf
    obtain ⟨q5, hf⟩ := m_chkE hf
    obtain ⟨o3, ho, hf⟩ := m_calE hf
    have h_o3 := eqt_t h_S1 (fq_X6_at ho)
    clear ho
    obtain ⟨o4, ho, hf⟩ := m_calE hf
    have h_o4 := eqt_t h_o3 (fq_X11_kindOf ho)
    clear ho
    rcases m_ifE hf with ⟨-, hf⟩ | ⟨-, hf⟩
    ·
      exact eqt_t h_o4 (fq_X8_parse_72  hf)
    ·
      exact eqt_t h_o4 (fq_X8_parse_72  hf)
  ·
    obtain ⟨-, hf⟩ := m_chkE hf
    cases hf
    exact h_S1
theorem fq_X8_parse_0 {o : Int32 × ZS} {x0 : Nat} {S : ZS}  (hf : f_X8_parse_0 x0 S = some o)   : EqT S o.2 := by
  have h_S : EqT S S := eqt_0
  unfold f_X8_parse_0 at hf
  obtain ⟨q1, hf⟩ := m_chkE hf
  obtain ⟨S1, e2, hf⟩ := m_bndE hf
  have h_S1 := eqt_I h_S e2
  obtain ⟨q3, hf⟩ := m_chkE hf
  obtain ⟨b2, -, hf⟩ := m_calE hf
  obtain ⟨q4, hf⟩ := m_chkE hf
  obtain ⟨o3, ho, hf⟩ := m_calE hf
  have h_o3 := eqt_t h_S1 (fq_X6_is ho)
  clear ho
  rcases m_ifE hf with ⟨-, hf⟩ | ⟨-, hf⟩
  ·
    obtain ⟨q5, hf⟩ := m_chkE hf
    obtain ⟨b4, -, hf⟩ := m_calE hf
    obtain ⟨q6, hf⟩ := m_chkE hf
    obtain ⟨o5, ho, hf⟩ := m_calE hf
    have h_o5 := eqt_t h_o3 (fq_X6_is ho)
    clear ho
    rcases m_ifE hf with ⟨-, hf⟩ | ⟨-, hf⟩
    ·
      exact eqt_t h_o5 (fq_X8_parse_40  hf)
    ·
      exact eqt_t h_o5 (fq_X8_parse_40  hf)
  ·
    exact eqt_t h_o3 (fq_X8_parse_40  hf)
theorem fq_X8_parse {o : Int32 × ZS} {x0 : Nat} {S : ZS}  (hf : f_X8_parse x0 S = some o)   : EqT S o.2 := by
  have h_S : EqT S S := eqt_0
  unfold f_X8_parse at hf
  exact eqt_t h_S (fq_X8_parse_0  hf)
theorem fq_X8_fitsFrom_70 {o : Int32 × ZS} {S : ZS}  (hf : f_X8_fitsFrom_70 S = some o)   : EqT S o.2 := by
  have h_S : EqT S S := eqt_0
  unfold f_X8_fitsFrom_70 at hf
  obtain ⟨-, hf⟩ := m_chkE hf
  cases hf
  exact h_S
theorem fq_X8_fitsFrom_158 {o : Int32 × ZS} {t0 : Int32} {S : ZS}  (hf : f_X8_fitsFrom_158 t0 S = some o)   : EqT S o.2 := by
  have h_S : EqT S S := eqt_0
  unfold f_X8_fitsFrom_158 at hf
  obtain ⟨-, hf⟩ := m_chkE hf
  cases hf
  exact h_S
theorem fq_X8_fitsFrom_157 {o : Int32 × ZS} {S : ZS}  (hf : f_X8_fitsFrom_157 S = some o)   : EqT S o.2 := by
  have h_S : EqT S S := eqt_0
  unfold f_X8_fitsFrom_157 at hf
  exact eqt_t h_S (fq_X8_fitsFrom_158  hf)
theorem fq_X8_fitsFrom_150 {o : Int32 × ZS} {t0 : Int32} {t1 : Int32} {S : ZS}  (hf : f_X8_fitsFrom_150 t0 t1 S = some o)   : EqT S o.2 := by
  have h_S : EqT S S := eqt_0
  unfold f_X8_fitsFrom_150 at hf
  rcases m_ifE hf with ⟨-, hf⟩ | ⟨-, hf⟩
  ·
    exact eqt_t h_S (fq_X8_fitsFrom_158  hf)
  ·
    exact eqt_t h_S (fq_X8_fitsFrom_157  hf)
theorem fq_X8_fitsFrom_129 {o : Int32 × ZS} {x0 : Nat} {x1 : Nat} {x2 : Int32} {S : ZS}  (hf : f_X8_fitsFrom_129 x0 x1 x2 S = some o)   : EqT S o.2 := by
  have h_S : EqT S S := eqt_0
  unfold f_X8_fitsFrom_129 at hf
  obtain ⟨q1, hf⟩ := m_chkE hf
  obtain ⟨q2, hf⟩ := m_chkE hf
  obtain ⟨o1, ho, hf⟩ := m_calE hf
  have h_o1 := eqt_t h_S (fq_X0_becomesAnother ho)
  clear ho
  obtain ⟨q3, hf⟩ := m_chkE hf
  rcases m_ifE hf with ⟨-, hf⟩ | ⟨-, hf⟩
  ·
    exact eqt_t h_o1 (fq_X8_fitsFrom_150  hf)
  ·
    exact eqt_t h_o1 (fq_X8_fitsFrom_150  hf)
theorem fq_X8_fitsFrom_126 {o : Int32 × ZS} {x0 : Nat} {x1 : Nat} {x2 : Int32} {t0 : Int32} {t1 : Int32} {S : ZS}  (hf : f_X8_fitsFrom_126 x0 x1 x2 t0 t1 S = some o)   : EqT S o.2 := by
  have h_S : EqT S S := eqt_0
  unfold f_X8_fitsFrom_126 at hf
  rcases m_ifE hf with ⟨-, hf⟩ | ⟨-, hf⟩
  ·
    exact eqt_t h_S (fq_X8_fitsFrom_129  hf)
  ·
    exact eqt_t h_S (fq_X8_fitsFrom_157  hf)
theorem fq_X8_fitsFrom_104 {o : Int32 × ZS} {x0 : Nat} {x1 : Nat} {x2 : Int32} {x3 : Int32} {S : ZS}  (hf : f_X8_fitsFrom_104 x0 x1 x2 x3 S = some o)   : EqT S o.2 := by
  have h_S : EqT S S := eqt_0
  unfold f_X8_fitsFrom_104 at hf
  obtain ⟨q1, hf⟩ := m_chkE hf
  rcases m_ifE hf with ⟨-, hf⟩ | ⟨-, hf⟩
  ·
    exact eqt_t h_S (fq_X8_fitsFrom_129  hf)
  ·
    obtain ⟨q2, hf⟩ := m_chkE hf
    rcases m_ifE hf with ⟨-, hf⟩ | ⟨-, hf⟩
    ·
      exact eqt_t h_S (fq_X8_fitsFrom_126  hf)
    ·
      exact eqt_t h_S (fq_X8_fitsFrom_126  hf)
theorem fq_X8_fitsFrom_72 {o : Int32 × ZS} {x0 : Nat} {x1 : Nat} {x2 : Int32} {S : ZS}  (hf : f_X8_fitsFrom_72 x0 x1 x2 S = some o)   : EqT S o.2 := by
  have h_S : EqT S S := eqt_0
  unfold f_X8_fitsFrom_72 at hf
  obtain ⟨q1, hf⟩ := m_chkE hf
  obtain ⟨q2, hf⟩ := m_chkE hf
  obtain ⟨o1, ho, hf⟩ := m_calE hf
  have h_o1 := eqt_t h_S (fq_X0_takes ho)
  clear ho
  obtain ⟨q3, hf⟩ := m_chkE hf
  rcases m_ifE hf with ⟨-, hf⟩ | ⟨-, hf⟩
  ·
    rcases m_ifE hf with ⟨-, hf⟩ | ⟨-, hf⟩
    ·
      exact eqt_t h_o1 (fq_X8_fitsFrom_104  hf)
    ·
      obtain ⟨q4, hf⟩ := m_chkE hf
      rcases m_ifE hf with ⟨-, hf⟩ | ⟨-, hf⟩
      ·
        obtain ⟨-, hf⟩ := m_chkE hf
        cases hf
        exact h_o1
      ·
        exact eqt_t h_o1 (fq_X8_fitsFrom_104  hf)
  ·
    exact eqt_t h_o1 (fq_X8_fitsFrom_104  hf)
theorem fq_X8_fitsFrom_52 {o : Int32 × ZS} {x0 : Nat} {x1 : Nat} {x2 : Int32} {S : ZS}  (hf : f_X8_fitsFrom_52 x0 x1 x2 S = some o)   : EqT S o.2 := by
  have h_S : EqT S S := eqt_0
  unfold f_X8_fitsFrom_52 at hf
  obtain ⟨q1, hf⟩ := m_chkE hf
  rcases m_ifE hf with ⟨-, hf⟩ | ⟨-, hf⟩
  ·
    exact eqt_t h_S (fq_X8_fitsFrom_72  hf)
  ·
    obtain ⟨q2, hf⟩ := m_chkE hf
    obtain ⟨v1, e3, hf⟩ := m_bndE hf
    rcases m_ifE hf with ⟨-, hf⟩ | ⟨-, hf⟩
    ·
      exact eqt_t h_S (fq_X8_fitsFrom_72  hf)
    ·
      exact eqt_t h_S (fq_X8_fitsFrom_70  hf)
theorem fq_X8_fitsFrom_0 {o : Int32 × ZS} {x0 : Nat} {x1 : Nat} {x2 : Int32} {S : ZS}  (hf : f_X8_fitsFrom_0 x0 x1 x2 S = some o)   : EqT S o.2 := by
  have h_S : EqT S S := eqt_0
  unfold f_X8_fitsFrom_0 at hf
  obtain ⟨q1, hf⟩ := m_chkE hf
  obtain ⟨b1, -, hf⟩ := m_calE hf
  obtain ⟨q2, hf⟩ := m_chkE hf
  obtain ⟨-, hf⟩ := m_chkE hf
  obtain ⟨v2, e3, hf⟩ := m_bndE hf
  obtain ⟨q4, hf⟩ := m_chkE hf
  obtain ⟨q5, hf⟩ := m_chkE hf
  obtain ⟨v3, e6, hf⟩ := m_bndE hf
  obtain ⟨v4, e7, hf⟩ := m_bndE hf
  rcases m_ifE hf with ⟨-, hf⟩ | ⟨-, hf⟩
  ·
    obtain ⟨q8, hf⟩ := m_chkE hf
    obtain ⟨q9, hf⟩ := m_chkE hf
    obtain ⟨o5, ho, hf⟩ := m_calE hf
    have h_o5 := eqt_t h_S (fq_X0_castles ho)
    clear ho
    rcases m_ifE hf with ⟨-, hf⟩ | ⟨-, hf⟩
    ·
      obtain ⟨q10, hf⟩ := m_chkE hf
      rcases m_ifE hf with ⟨-, hf⟩ | ⟨-, hf⟩
      ·
        exact eqt_t h_o5 (fq_X8_fitsFrom_52  hf)
      ·
        obtain ⟨q11, hf⟩ := m_chkE hf
        obtain ⟨v6, e12, hf⟩ := m_bndE hf
        rcases m_ifE hf with ⟨-, hf⟩ | ⟨-, hf⟩
        ·
          exact eqt_t h_o5 (fq_X8_fitsFrom_52  hf)
        ·
          exact eqt_t h_o5 (fq_X8_fitsFrom_70  hf)
    ·
      exact eqt_t h_o5 (fq_X8_fitsFrom_70  hf)
  ·
    exact eqt_t h_S (fq_X8_fitsFrom_70  hf)
theorem fq_X8_fitsFrom {o : Int32 × ZS} {x0 : Nat} {x1 : Nat} {x2 : Int32} {S : ZS}  (hf : f_X8_fitsFrom x0 x1 x2 S = some o)   : EqT S o.2 := by
  have h_S : EqT S S := eqt_0
  unfold f_X8_fitsFrom at hf
  exact eqt_t h_S (fq_X8_fitsFrom_0  hf)
theorem fq_X7_isSafe_105 {o : Int32 × ZS} {t0 : Int32} {S : ZS}  (hf : f_X7_isSafe_105 t0 S = some o)   : EqT S o.2 := by
  have h_S : EqT S S := eqt_0
  unfold f_X7_isSafe_105 at hf
  obtain ⟨-, hf⟩ := m_chkE hf
  cases hf
  exact h_S
theorem fq_X7_isSafe_61 {o : Int32 × ZS} {x0 : Nat} {x1 : Nat} {x2 : Int32} {x5 : Int32} {S : ZS}  (hf : f_X7_isSafe_61 x0 x1 x2 x5 S = some o)   : EqT S o.2 := by
  have h_S : EqT S S := eqt_0
  unfold f_X7_isSafe_61 at hf
  obtain ⟨q1, hf⟩ := m_chkE hf
  obtain ⟨b1, -, hf⟩ := m_calE hf
  obtain ⟨q2, hf⟩ := m_chkE hf
  obtain ⟨o2, ho, hf⟩ := m_calE hf
  have h_o2 := eqt_t h_S (fq_X0_copyFrom ho)
  clear ho
  obtain ⟨q3, hf⟩ := m_chkE hf
  obtain ⟨b3, -, hf⟩ := m_calE hf
  obtain ⟨q4, hf⟩ := m_chkE hf
  obtain ⟨o4, ho, hf⟩ := m_calE hf
  have h_o4 := eqt_t h_o2 (fq_X0_play ho)
  clear ho
  obtain ⟨q5, hf⟩ := m_chkE hf
  obtain ⟨b5, -, hf⟩ := m_calE hf
  obtain ⟨q6, hf⟩ := m_chkE hf
  obtain ⟨b6, -, hf⟩ := m_calE hf
  obtain ⟨q7, hf⟩ := m_chkE hf
  obtain ⟨o7, ho, hf⟩ := m_calE hf
  have h_o7 := eqt_t h_o4 (fq_X0_kingOf ho)
  clear ho
  obtain ⟨v8, e8, hf⟩ := m_bndE hf
  obtain ⟨q9, hf⟩ := m_chkE hf
  obtain ⟨o9, ho, hf⟩ := m_calE hf
  have h_o9 := eqt_t h_o7 (fq_X0_attacked ho)
  clear ho
  rcases m_ifE hf with ⟨-, hf⟩ | ⟨-, hf⟩
  ·
    exact eqt_t h_o9 (fq_X7_isSafe_105  hf)
  ·
    exact eqt_t h_o9 (fq_X7_isSafe_105  hf)
theorem fq_X7_isSafe_59 {o : Int32 × ZS} {S : ZS}  (hf : f_X7_isSafe_59 S = some o)   : EqT S o.2 := by
  have h_S : EqT S S := eqt_0
  unfold f_X7_isSafe_59 at hf
  obtain ⟨-, hf⟩ := m_chkE hf
  cases hf
  exact h_S
theorem fq_X7_isSafe_0 {o : Int32 × ZS} {x0 : Nat} {x1 : Nat} {x2 : Int32} {S : ZS}  (hf : f_X7_isSafe_0 x0 x1 x2 S = some o)   : EqT S o.2 := by
  have h_S : EqT S S := eqt_0
  unfold f_X7_isSafe_0 at hf
  obtain ⟨v1, e1, hf⟩ := m_bndE hf
  obtain ⟨v2, e2, hf⟩ := m_bndE hf
  obtain ⟨v3, e3, hf⟩ := m_bndE hf
  obtain ⟨q4, hf⟩ := m_chkE hf
  obtain ⟨q5, hf⟩ := m_chkE hf
  obtain ⟨o4, ho, hf⟩ := m_calE hf
  have h_o4 := eqt_t h_S (fq_X0_castles ho)
  clear ho
  rcases m_ifE hf with ⟨-, hf⟩ | ⟨-, hf⟩
  ·
    exact eqt_t h_o4 (fq_X7_isSafe_61  hf)
  ·
    obtain ⟨v5, e6, hf⟩ := m_bndE hf
    obtain ⟨q7, hf⟩ := m_chkE hf
    obtain ⟨o6, ho, hf⟩ := m_calE hf
    have h_o6 := eqt_t h_o4 (fq_X0_attacked ho)
    clear ho
    rcases m_ifE hf with ⟨-, hf⟩ | ⟨-, hf⟩
    ·
      obtain ⟨v7, e8, hf⟩ := m_bndE hf
      obtain ⟨v8, e9, hf⟩ := m_bndE hf
      obtain ⟨v9, e10, hf⟩ := m_bndE hf
      obtain ⟨q11, hf⟩ := m_chkE hf
      obtain ⟨o10, ho, hf⟩ := m_calE hf
      have h_o10 := eqt_t h_o6 (fq_X0_attacked ho)
      clear ho
      rcases m_ifE hf with ⟨-, hf⟩ | ⟨-, hf⟩
      ·
        exact eqt_t h_o10 (fq_X7_isSafe_61  hf)
      ·
        exact eqt_t h_o10 (fq_X7_isSafe_59  hf)
    ·
      exact eqt_t h_o6 (fq_X7_isSafe_59  hf)
theorem fq_X7_isSafe {o : Int32 × ZS} {x0 : Nat} {x1 : Nat} {x2 : Int32} {S : ZS}  (hf : f_X7_isSafe x0 x1 x2 S = some o)   : EqT S o.2 := by
  have h_S : EqT S S := eqt_0
  unfold f_X7_isSafe at hf
  exact eqt_t h_S (fq_X7_isSafe_0  hf)
theorem fq_X8_gather_155 {o : Int32 × ZS} {self38 : Nat → Nat → Int32 → Int32 → ZS → Option (Int32 × ZS)} {x0 : Nat} {x1 : Nat} {x2 : Int32} {x3 : Int32} {S : ZS} (hself38 : ∀ (z0 : Nat) (z1 : Nat) (z2 : Int32) (z3 : Int32) (S : ZS) (o : Int32 × ZS), self38 z0 z1 z2 z3 S = some o → EqT S o.2) (hf : f_X8_gather_155 self38 x0 x1 x2 x3 S = some o)   : EqT S o.2 := by
  have h_S : EqT S S := eqt_0
  unfold f_X8_gather_155 at hf
  obtain ⟨v1, e1, hf⟩ := m_bndE hf
  exact eqt_t h_S (hself38 _ _ _ _ _ _ hf)
theorem fq_X8_gather_82 {o : Int32 × ZS} {self38 : Nat → Nat → Int32 → Int32 → ZS → Option (Int32 × ZS)} {x0 : Nat} {x1 : Nat} {x2 : Int32} {x3 : Int32} {t0 : Int32} {S : ZS} (hself38 : ∀ (z0 : Nat) (z1 : Nat) (z2 : Int32) (z3 : Int32) (S : ZS) (o : Int32 × ZS), self38 z0 z1 z2 z3 S = some o → EqT S o.2) (hf : f_X8_gather_82 self38 x0 x1 x2 x3 t0 S = some o)   : EqT S o.2 := by
  have h_S : EqT S S := eqt_0
  unfold f_X8_gather_82 at hf
  obtain ⟨q1, hf⟩ := m_chkE hf
  obtain ⟨v1, e2, hf⟩ := m_bndE hf
  obtain ⟨v2, e3, hf⟩ := m_bndE hf
  obtain ⟨q4, hf⟩ := m_chkE hf
  obtain ⟨v3, e5, hf⟩ := m_bndE hf
  obtain ⟨v4, e6, hf⟩ := m_bndE hf
  rcases m_ifE hf with ⟨-, hf⟩ | ⟨-, hf⟩
  ·
    exact eqt_t h_S (fq_X8_gather_155 hself38 hf)
  ·
    obtain ⟨q7, hf⟩ := m_chkE hf
    obtain ⟨q8, hf⟩ := m_chkE hf
    obtain ⟨o5, ho, hf⟩ := m_calE hf
    have h_o5 := eqt_t h_S (fq_X0_reaches ho)
    clear ho
    rcases m_ifE hf with ⟨-, hf⟩ | ⟨-, hf⟩
    ·
      exact eqt_t h_o5 (fq_X8_gather_155 hself38 hf)
    ·
      obtain ⟨q9, hf⟩ := m_chkE hf
      obtain ⟨b6, -, hf⟩ := m_calE hf
      obtain ⟨q10, hf⟩ := m_chkE hf
      obtain ⟨o7, ho, hf⟩ := m_calE hf
      have h_o7 := eqt_t h_o5 (fq_X7_isSafe ho)
      clear ho
      rcases m_ifE hf with ⟨-, hf⟩ | ⟨-, hf⟩
      ·
        exact eqt_t h_o7 (fq_X8_gather_155 hself38 hf)
      ·
        obtain ⟨q11, hf⟩ := m_chkE hf
        obtain ⟨b8, -, hf⟩ := m_calE hf
        obtain ⟨q12, hf⟩ := m_chkE hf
        obtain ⟨q13, hf⟩ := m_chkE hf
        obtain ⟨-, hf⟩ := m_chkE hf
        obtain ⟨S9, e14, hf⟩ := m_bndE hf
        have h_S9 := eqt_A h_o7 e14
        obtain ⟨q15, hf⟩ := m_chkE hf
        obtain ⟨v10, e16, hf⟩ := m_bndE hf
        obtain ⟨q17, hf⟩ := m_chkE hf
        obtain ⟨S11, e18, hf⟩ := m_bndE hf
        have h_S11 := eqt_I h_S9 e18
        exact eqt_t h_S11 (fq_X8_gather_155 hself38 hf)
theorem fq_X8_gather_72 {o : Int32 × ZS} {self38 : Nat → Nat → Int32 → Int32 → ZS → Option (Int32 × ZS)} {x0 : Nat} {x1 : Nat} {x2 : Int32} {x3 : Int32} {S : ZS} (hself38 : ∀ (z0 : Nat) (z1 : Nat) (z2 : Int32) (z3 : Int32) (S : ZS) (o : Int32 × ZS), self38 z0 z1 z2 z3 S = some o → EqT S o.2) (hf : f_X8_gather_72 self38 x0 x1 x2 x3 S = some o)   : EqT S o.2 := by
  have h_S : EqT S S := eqt_0
  unfold f_X8_gather_72 at hf
  exact eqt_t h_S (fq_X8_gather_82 hself38 hf)
theorem fq_X8_gather_38s {o : Int32 × ZS} {self38 : Nat → Nat → Int32 → Int32 → ZS → Option (Int32 × ZS)} {x0 : Nat} {x1 : Nat} {x2 : Int32} {x3 : Int32} {S : ZS} (hself38 : ∀ (z0 : Nat) (z1 : Nat) (z2 : Int32) (z3 : Int32) (S : ZS) (o : Int32 × ZS), self38 z0 z1 z2 z3 S = some o → EqT S o.2) (hf : f_X8_gather_38s self38 x0 x1 x2 x3 S = some o)   : EqT S o.2 := by
  have h_S : EqT S S := eqt_0
  unfold f_X8_gather_38s at hf
  rcases m_ifE hf with ⟨-, hf⟩ | ⟨-, hf⟩
  ·
    cases hf
    exact h_S
  ·
    obtain ⟨q1, hf⟩ := m_chkE hf
    rcases m_ifE hf with ⟨-, hf⟩ | ⟨-, hf⟩
    ·
      obtain ⟨q2, hf⟩ := m_chkE hf
      obtain ⟨o1, ho, hf⟩ := m_calE hf
      have h_o1 := eqt_t h_S (fq_X8_fitsFrom ho)
      clear ho
      exact eqt_t h_o1 (fq_X8_gather_82 hself38 hf)
    ·
      rcases m_ifE hf with ⟨-, hf⟩ | ⟨-, hf⟩
      ·
        obtain ⟨q3, hf⟩ := m_chkE hf
        obtain ⟨q4, hf⟩ := m_chkE hf
        obtain ⟨o2, ho, hf⟩ := m_calE hf
        have h_o2 := eqt_t h_S (fq_X0_castles ho)
        clear ho
        rcases m_ifE hf with ⟨-, hf⟩ | ⟨-, hf⟩
        ·
          exact eqt_t h_o2 (fq_X8_gather_72 hself38 hf)
        ·
          exact eqt_t h_o2 (fq_X8_gather_82 hself38 hf)
      ·
        exact eqt_t h_S (fq_X8_gather_72 hself38 hf)
theorem fq_X8_gather_38   (n : Nat) : ∀ (y0 : Nat) (y1 : Nat) (y2 : Int32) (y3 : Int32) (S : ZS) (o : Int32 × ZS), f_X8_gather_38  n y0 y1 y2 y3 S = some o → EqT S o.2 := by
  induction n with
  | zero => intro y0 y1 y2 y3 S o hf; cases hf
  | succ n ih => intro y0 y1 y2 y3 S o hf; exact fq_X8_gather_38s  ih hf
theorem fq_X8_gather_36 {o : Int32 × ZS} {x0 : Nat} {x1 : Nat} {x2 : Int32} {S : ZS}  (hf : f_X8_gather_36 x0 x1 x2 S = some o)   : EqT S o.2 := by
  have h_S : EqT S S := eqt_0
  unfold f_X8_gather_36 at hf
  exact eqt_t h_S (fq_X8_gather_38  _ _ _ _ _ _ _ hf)
theorem fq_X8_gather_18 {o : Int32 × ZS} {x0 : Nat} {x1 : Nat} {t0 : Int32} {S : ZS}  (hf : f_X8_gather_18 x0 x1 t0 S = some o)   : EqT S o.2 := by
  have h_S : EqT S S := eqt_0
  unfold f_X8_gather_18 at hf
  obtain ⟨q1, hf⟩ := m_chkE hf
  rcases m_ifE hf with ⟨-, hf⟩ | ⟨-, hf⟩
  ·
    exact eqt_t h_S (fq_X8_gather_36  hf)
  ·
    obtain ⟨q2, hf⟩ := m_chkE hf
    obtain ⟨v1, e3, hf⟩ := m_bndE hf
    obtain ⟨q4, hf⟩ := m_chkE hf
    obtain ⟨S2, e5, hf⟩ := m_bndE hf
    have h_S2 := eqt_I h_S e5
    exact eqt_t h_S2 (fq_X8_gather_36  hf)
theorem fq_X8_gather_0 {o : Int32 × ZS} {x0 : Nat} {x1 : Nat} {S : ZS}  (hf : f_X8_gather_0 x0 x1 S = some o)   : EqT S o.2 := by
  have h_S : EqT S S := eqt_0
  unfold f_X8_gather_0 at hf
  obtain ⟨q1, hf⟩ := m_chkE hf
  obtain ⟨S1, e2, hf⟩ := m_bndE hf
  have h_S1 := eqt_I h_S e2
  obtain ⟨q3, hf⟩ := m_chkE hf
  rcases m_ifE hf with ⟨-, hf⟩ | ⟨-, hf⟩
  ·
    exact eqt_t h_S1 (fq_X8_gather_18  hf)
  ·
    exact eqt_t h_S1 (fq_X8_gather_18  hf)
theorem fq_X8_gather {o : Int32 × ZS} {x0 : Nat} {x1 : Nat} {S : ZS}  (hf : f_X8_gather x0 x1 S = some o)   : EqT S o.2 := by
  have h_S : EqT S S := eqt_0
  unfold f_X8_gather at hf
  exact eqt_t h_S (fq_X8_gather_0  hf)
theorem fq_X7_checkSign_103 {o : Int32 × ZS} {self53 : Nat → Int32 → ZS → Option (Int32 × ZS)} {self62 : Nat → Int32 → Int32 → ZS → Option (Int32 × ZS)} {x0 : Nat} {x3 : Int32} {x4 : Int32} {S : ZS} (hself53 : ∀ (z0 : Nat) (z1 : Int32) (S : ZS) (o : Int32 × ZS), self53 z0 z1 S = some o → EqT S o.2) (hself62 : ∀ (z0 : Nat) (z1 : Int32) (z2 : Int32) (S : ZS) (o : Int32 × ZS), self62 z0 z1 z2 S = some o → EqT S o.2) (hf : f_X7_checkSign_103 self53 self62 x0 x3 x4 S = some o)   : EqT S o.2 := by
  have h_S : EqT S S := eqt_0
  unfold f_X7_checkSign_103 at hf
  obtain ⟨v1, e1, hf⟩ := m_bndE hf
  exact eqt_t h_S (hself62 _ _ _ _ _ hf)
theorem fq_X7_checkSign_62s {o : Int32 × ZS} {self53 : Nat → Int32 → ZS → Option (Int32 × ZS)} {self62 : Nat → Int32 → Int32 → ZS → Option (Int32 × ZS)} {x0 : Nat} {x3 : Int32} {x4 : Int32} {S : ZS} (hself53 : ∀ (z0 : Nat) (z1 : Int32) (S : ZS) (o : Int32 × ZS), self53 z0 z1 S = some o → EqT S o.2) (hself62 : ∀ (z0 : Nat) (z1 : Int32) (z2 : Int32) (S : ZS) (o : Int32 × ZS), self62 z0 z1 z2 S = some o → EqT S o.2) (hf : f_X7_checkSign_62s self53 self62 x0 x3 x4 S = some o)   : EqT S o.2 := by
  have h_S : EqT S S := eqt_0
  unfold f_X7_checkSign_62s at hf
  rcases m_ifE hf with ⟨-, hf⟩ | ⟨-, hf⟩
  ·
    obtain ⟨v1, e1, hf⟩ := m_bndE hf
    exact eqt_t h_S (hself53 _ _ _ _ hf)
  ·
    obtain ⟨q2, hf⟩ := m_chkE hf
    obtain ⟨b2, -, hf⟩ := m_calE hf
    obtain ⟨q3, hf⟩ := m_chkE hf
    obtain ⟨o3, ho, hf⟩ := m_calE hf
    have h_o3 := eqt_t h_S (fq_X0_reaches ho)
    clear ho
    rcases m_ifE hf with ⟨-, hf⟩ | ⟨-, hf⟩
    ·
      exact eqt_t h_o3 (fq_X7_checkSign_103 hself53 hself62 hf)
    ·
      obtain ⟨q4, hf⟩ := m_chkE hf
      obtain ⟨b4, -, hf⟩ := m_calE hf
      obtain ⟨v5, e5, hf⟩ := m_bndE hf
      obtain ⟨v6, e6, hf⟩ := m_bndE hf
      obtain ⟨q7, hf⟩ := m_chkE hf
      obtain ⟨o7, ho, hf⟩ := m_calE hf
      have h_o7 := eqt_t h_o3 (fq_X7_isSafe ho)
      clear ho
      rcases m_ifE hf with ⟨-, hf⟩ | ⟨-, hf⟩
      ·
        exact eqt_t h_o7 (fq_X7_checkSign_103 hself53 hself62 hf)
      ·
        obtain ⟨-, hf⟩ := m_chkE hf
        cases hf
        exact h_o7
theorem fq_X7_checkSign_62 {self53 : Nat → Int32 → ZS → Option (Int32 × ZS)} (hself53 : ∀ (z0 : Nat) (z1 : Int32) (S : ZS) (o : Int32 × ZS), self53 z0 z1 S = some o → EqT S o.2) (n : Nat) : ∀ (y0 : Nat) (y1 : Int32) (y2 : Int32) (S : ZS) (o : Int32 × ZS), f_X7_checkSign_62 self53 n y0 y1 y2 S = some o → EqT S o.2 := by
  induction n with
  | zero => intro y0 y1 y2 S o hf; cases hf
  | succ n ih => intro y0 y1 y2 S o hf; exact fq_X7_checkSign_62s hself53 ih hf
theorem fq_X7_checkSign_53s {o : Int32 × ZS} {self53 : Nat → Int32 → ZS → Option (Int32 × ZS)} {x0 : Nat} {x3 : Int32} {S : ZS} (hself53 : ∀ (z0 : Nat) (z1 : Int32) (S : ZS) (o : Int32 × ZS), self53 z0 z1 S = some o → EqT S o.2) (hf : f_X7_checkSign_53s self53 x0 x3 S = some o)   : EqT S o.2 := by
  have h_S : EqT S S := eqt_0
  unfold f_X7_checkSign_53s at hf
  rcases m_ifE hf with ⟨-, hf⟩ | ⟨-, hf⟩
  ·
    obtain ⟨-, hf⟩ := m_chkE hf
    cases hf
    exact h_S
  ·
    exact eqt_t h_S (fq_X7_checkSign_62 hself53 _ _ _ _ _ _ hf)
theorem fq_X7_checkSign_53   (n : Nat) : ∀ (y0 : Nat) (y1 : Int32) (S : ZS) (o : Int32 × ZS), f_X7_checkSign_53  n y0 y1 S = some o → EqT S o.2 := by
  induction n with
  | zero => intro y0 y1 S o hf; cases hf
  | succ n ih => intro y0 y1 S o hf; exact fq_X7_checkSign_53s  ih hf
theorem fq_X7_checkSign_0 {o : Int32 × ZS} {x0 : Nat} {x1 : Nat} {x2 : Int32} {S : ZS}  (hf : f_X7_checkSign_0 x0 x1 x2 S = some o)   : EqT S o.2 := by
  have h_S : EqT S S := eqt_0
  unfold f_X7_checkSign_0 at hf
  obtain ⟨q1, hf⟩ := m_chkE hf
  obtain ⟨b1, -, hf⟩ := m_calE hf
  obtain ⟨q2, hf⟩ := m_chkE hf
  obtain ⟨o2, ho, hf⟩ := m_calE hf
  have h_o2 := eqt_t h_S (fq_X0_copyFrom ho)
  clear ho
  obtain ⟨q3, hf⟩ := m_chkE hf
  obtain ⟨b3, -, hf⟩ := m_calE hf
  obtain ⟨q4, hf⟩ := m_chkE hf
  obtain ⟨o4, ho, hf⟩ := m_calE hf
  have h_o4 := eqt_t h_o2 (fq_X0_play ho)
  clear ho
  obtain ⟨q5, hf⟩ := m_chkE hf
  obtain ⟨b5, -, hf⟩ := m_calE hf
  obtain ⟨q6, hf⟩ := m_chkE hf
  obtain ⟨b6, -, hf⟩ := m_calE hf
  obtain ⟨q7, hf⟩ := m_chkE hf
  obtain ⟨b7, -, hf⟩ := m_calE hf
  obtain ⟨q8, hf⟩ := m_chkE hf
  obtain ⟨q9, hf⟩ := m_chkE hf
  obtain ⟨o8, ho, hf⟩ := m_calE hf
  have h_o8 := eqt_t h_o4 (fq_X0_kingOf ho)
  clear ho
  obtain ⟨q10, hf⟩ := m_chkE hf
  obtain ⟨b9, -, hf⟩ := m_calE hf
  obtain ⟨q11, hf⟩ := m_chkE hf
  obtain ⟨v10, e12, hf⟩ := m_bndE hf
  obtain ⟨q13, hf⟩ := m_chkE hf
  obtain ⟨o11, ho, hf⟩ := m_calE hf
  have h_o11 := eqt_t h_o8 (fq_X0_attacked ho)
  clear ho
  rcases m_ifE hf with ⟨-, hf⟩ | ⟨-, hf⟩
  ·
    obtain ⟨-, hf⟩ := m_chkE hf
    cases hf
    exact h_o11
  ·
    exact eqt_t h_o11 (fq_X7_checkSign_53  _ _ _ _ _ hf)
theorem fq_X7_checkSign {o : Int32 × ZS} {x0 : Nat} {x1 : Nat} {x2 : Int32} {S : ZS}  (hf : f_X7_checkSign x0 x1 x2 S = some o)   : EqT S o.2 := by
  have h_S : EqT S S := eqt_0
  unfold f_X7_checkSign at hf
  exact eqt_t h_S (fq_X7_checkSign_0  hf)
theorem fq_X2_shortMark_56 {o : Int32 × ZS} {t0 : Int32} {S : ZS}  (hf : f_X2_shortMark_56 t0 S = some o)   : EqT S o.2 := by
  have h_S : EqT S S := eqt_0
  unfold f_X2_shortMark_56 at hf
  cases hf
  exact h_S
theorem fq_X2_shortMark_27 {o : Int32 × ZS} {t0 : Int32} {S : ZS}  (hf : f_X2_shortMark_27 t0 S = some o)   : EqT S o.2 := by
  have h_S : EqT S S := eqt_0
  unfold f_X2_shortMark_27 at hf
  cases hf
  exact h_S
theorem fq_X2_shortMark_0 {o : Int32 × ZS} {x0 : Int32} {x1 : Int32} {S : ZS}  (hf : f_X2_shortMark_0 x0 x1 S = some o)   : EqT S o.2 := by
  have h_S : EqT S S := eqt_0
  unfold f_X2_shortMark_0 at hf
  rcases m_ifE hf with ⟨-, hf⟩ | ⟨-, hf⟩
  ·
    rcases m_ifE hf with ⟨-, hf⟩ | ⟨-, hf⟩
    ·
      exact eqt_t h_S (fq_X2_shortMark_27  hf)
    ·
      rcases m_ifE hf with ⟨-, hf⟩ | ⟨-, hf⟩
      ·
        exact eqt_t h_S (fq_X2_shortMark_27  hf)
      ·
        exact eqt_t h_S (fq_X2_shortMark_27  hf)
  ·
    rcases m_ifE hf with ⟨-, hf⟩ | ⟨-, hf⟩
    ·
      rcases m_ifE hf with ⟨-, hf⟩ | ⟨-, hf⟩
      ·
        exact eqt_t h_S (fq_X2_shortMark_56  hf)
      ·
        rcases m_ifE hf with ⟨-, hf⟩ | ⟨-, hf⟩
        ·
          exact eqt_t h_S (fq_X2_shortMark_56  hf)
        ·
          exact eqt_t h_S (fq_X2_shortMark_56  hf)
    ·
      cases hf
      exact h_S
theorem fq_X2_shortMark {o : Int32 × ZS} {x0 : Int32} {x1 : Int32} {S : ZS}  (hf : f_X2_shortMark x0 x1 S = some o)   : EqT S o.2 := by
  have h_S : EqT S S := eqt_0
  unfold f_X2_shortMark at hf
  exact eqt_t h_S (fq_X2_shortMark_0  hf)
theorem fq_X4_putMark_0 {o : Int32 × ZS} {x0 : Nat} {x1 : Int32} {S : ZS}  (hf : f_X4_putMark_0 x0 x1 S = some o)   : EqT S o.2 := by
  have h_S : EqT S S := eqt_0
  unfold f_X4_putMark_0 at hf
  obtain ⟨q1, hf⟩ := m_chkE hf
  obtain ⟨q2, hf⟩ := m_chkE hf
  obtain ⟨v1, e3, hf⟩ := m_bndE hf
  obtain ⟨v2, e4, hf⟩ := m_bndE hf
  obtain ⟨v3, e5, hf⟩ := m_bndE hf
  obtain ⟨q6, hf⟩ := m_chkE hf
  obtain ⟨S4, e7, hf⟩ := m_bndE hf
  have h_S4 := eqt_I h_S e7
  obtain ⟨q8, hf⟩ := m_chkE hf
  obtain ⟨v5, e9, hf⟩ := m_bndE hf
  obtain ⟨q10, hf⟩ := m_chkE hf
  obtain ⟨S6, e11, hf⟩ := m_bndE hf
  have h_S6 := eqt_I h_S4 e11
  cases hf
  exact h_S6
theorem fq_X4_putMark {o : Int32 × ZS} {x0 : Nat} {x1 : Int32} {S : ZS}  (hf : f_X4_putMark x0 x1 S = some o)   : EqT S o.2 := by
  have h_S : EqT S S := eqt_0
  unfold f_X4_putMark at hf
  exact eqt_t h_S (fq_X4_putMark_0  hf)
theorem fq_X2_readMark_56 {o : Int32 × ZS} {x0 : Nat} {x2 : Int32} {S : ZS}  (hf : f_X2_readMark_56 x0 x2 S = some o)   : EqT S o.2 := by
  have h_S : EqT S S := eqt_0
  unfold f_X2_readMark_56 at hf
  obtain ⟨q1, hf⟩ := m_chkE hf
  obtain ⟨o1, ho, hf⟩ := m_calE hf
  have h_o1 := eqt_t h_S (fq_X2_refuse ho)
  clear ho
  obtain ⟨-, hf⟩ := m_chkE hf
  cases hf
  exact h_o1
theorem fq_X2_readMark_0 {o : Int32 × ZS} {x0 : Nat} {x1 : Nat} {S : ZS}  (hf : f_X2_readMark_0 x0 x1 S = some o)   : EqT S o.2 := by
  have h_S : EqT S S := eqt_0
  unfold f_X2_readMark_0 at hf
  obtain ⟨q1, hf⟩ := m_chkE hf
  obtain ⟨q2, hf⟩ := m_chkE hf
  obtain ⟨v1, e3, hf⟩ := m_bndE hf
  obtain ⟨q4, hf⟩ := m_chkE hf
  obtain ⟨S2, e5, hf⟩ := m_bndE hf
  have h_S2 := eqt_I h_S e5
  obtain ⟨q6, hf⟩ := m_chkE hf
  obtain ⟨o3, ho, hf⟩ := m_calE hf
  have h_o3 := eqt_t h_S2 (fq_X2_readDigits ho)
  clear ho
  obtain ⟨q7, hf⟩ := m_chkE hf
  obtain ⟨v4, e8, hf⟩ := m_bndE hf
  rcases m_ifE hf with ⟨-, hf⟩ | ⟨-, hf⟩
  ·
    obtain ⟨q9, hf⟩ := m_chkE hf
    obtain ⟨q10, hf⟩ := m_chkE hf
    obtain ⟨o10, ho, hf⟩ := m_calE hf
    have h_o10 := eqt_t h_o3 (fq_X2_refuse ho)
    clear ho
    obtain ⟨-, hf⟩ := m_chkE hf
    cases hf
    exact h_o10
  ·
    rcases m_ifE hf with ⟨-, hf⟩ | ⟨-, hf⟩
    ·
      exact eqt_t h_o3 (fq_X2_readMark_56  hf)
    ·
      obtain ⟨q11, hf⟩ := m_chkE hf
      rcases m_ifE hf with ⟨-, hf⟩ | ⟨-, hf⟩
      ·
        obtain ⟨q12, hf⟩ := m_chkE hf
        obtain ⟨b5, -, hf⟩ := m_calE hf
        obtain ⟨q13, hf⟩ := m_chkE hf
        obtain ⟨q14, hf⟩ := m_chkE hf
        obtain ⟨o6, ho, hf⟩ := m_calE hf
        have h_o6 := eqt_t h_o3 (fq_X6_at ho)
        clear ho
        obtain ⟨o7, ho, hf⟩ := m_calE hf
        have h_o7 := eqt_t h_o6 (fq_X11_isDigit ho)
        clear ho
        rcases m_ifE hf with ⟨-, hf⟩ | ⟨-, hf⟩
        ·
          obtain ⟨q15, hf⟩ := m_chkE hf
          obtain ⟨o8, ho, hf⟩ := m_calE hf
          have h_o8 := eqt_t h_o7 (fq_X4_putMark ho)
          clear ho
          obtain ⟨-, hf⟩ := m_chkE hf
          cases hf
          exact h_o8
        ·
          obtain ⟨q16, hf⟩ := m_chkE hf
          obtain ⟨q17, hf⟩ := m_chkE hf
          obtain ⟨o9, ho, hf⟩ := m_calE hf
          have h_o9 := eqt_t h_o7 (fq_X2_refuse ho)
          clear ho
          obtain ⟨-, hf⟩ := m_chkE hf
          cases hf
          exact h_o9
      ·
        exact eqt_t h_o3 (fq_X2_readMark_56  hf)
theorem fq_X2_readMark {o : Int32 × ZS} {x0 : Nat} {x1 : Nat} {S : ZS}  (hf : f_X2_readMark x0 x1 S = some o)   : EqT S o.2 := by
  have h_S : EqT S S := eqt_0
  unfold f_X2_readMark at hf
  exact eqt_t h_S (fq_X2_readMark_0  hf)
theorem fq_X2_readMarks_113 {o : Int32 × ZS} {x3 : Int32} {S : ZS}  (hf : f_X2_readMarks_113 x3 S = some o)   : EqT S o.2 := by
  have h_S : EqT S S := eqt_0
  unfold f_X2_readMarks_113 at hf
  obtain ⟨-, hf⟩ := m_chkE hf
  cases hf
  exact h_S
theorem fq_X2_readMarks_69s {o : Int32 × ZS} {self69 : Nat → Nat → Int32 → Int32 → ZS → Option (Int32 × ZS)} {x0 : Nat} {x1 : Nat} {x3 : Int32} {x4 : Int32} {S : ZS} (hself69 : ∀ (z0 : Nat) (z1 : Nat) (z2 : Int32) (z3 : Int32) (S : ZS) (o : Int32 × ZS), self69 z0 z1 z2 z3 S = some o → EqT S o.2) (hf : f_X2_readMarks_69s self69 x0 x1 x3 x4 S = some o)   : EqT S o.2 := by
  have h_S : EqT S S := eqt_0
  unfold f_X2_readMarks_69s at hf
  rcases m_ifE hf with ⟨-, hf⟩ | ⟨-, hf⟩
  ·
    exact eqt_t h_S (fq_X2_readMarks_113  hf)
  ·
    rcases m_ifE hf with ⟨-, hf⟩ | ⟨-, hf⟩
    ·
      exact eqt_t h_S (fq_X2_readMarks_113  hf)
    ·
      obtain ⟨q1, hf⟩ := m_chkE hf
      obtain ⟨b1, -, hf⟩ := m_calE hf
      obtain ⟨q2, hf⟩ := m_chkE hf
      obtain ⟨q3, hf⟩ := m_chkE hf
      obtain ⟨o2, ho, hf⟩ := m_calE hf
      have h_o2 := eqt_t h_S (fq_X6_at ho)
      clear ho
      rcases m_ifE hf with ⟨-, hf⟩ | ⟨-, hf⟩
      ·
        obtain ⟨q4, hf⟩ := m_chkE hf
        obtain ⟨o3, ho, hf⟩ := m_calE hf
        have h_o3 := eqt_t h_o2 (fq_X2_readMark ho)
        clear ho
        obtain ⟨q5, hf⟩ := m_chkE hf
        obtain ⟨o4, ho, hf⟩ := m_calE hf
        have h_o4 := eqt_t h_o3 (fq_X2_skipBlanks ho)
        clear ho
        obtain ⟨v5, e6, hf⟩ := m_bndE hf
        exact eqt_t h_o4 (hself69 _ _ _ _ _ _ hf)
      ·
        exact eqt_t h_o2 (fq_X2_readMarks_113  hf)
theorem fq_X2_readMarks_69   (n : Nat) : ∀ (y0 : Nat) (y1 : Nat) (y2 : Int32) (y3 : Int32) (S : ZS) (o : Int32 × ZS), f_X2_readMarks_69  n y0 y1 y2 y3 S = some o → EqT S o.2 := by
  induction n with
  | zero => intro y0 y1 y2 y3 S o hf; cases hf
  | succ n ih => intro y0 y1 y2 y3 S o hf; exact fq_X2_readMarks_69s  ih hf
theorem fq_X2_readMarks_64 {o : Int32 × ZS} {x0 : Nat} {x1 : Nat} {S : ZS}  (hf : f_X2_readMarks_64 x0 x1 S = some o)   : EqT S o.2 := by
  have h_S : EqT S S := eqt_0
  unfold f_X2_readMarks_64 at hf
  exact eqt_t h_S (fq_X2_readMarks_69  _ _ _ _ _ _ _ hf)
theorem fq_X2_readMarks_56 {o : Int32 × ZS} {x0 : Nat} {x1 : Nat} {t0 : Int32} {t1 : Int32} {t2 : Nat} {S : ZS}  (hf : f_X2_readMarks_56 x0 x1 t0 t1 t2 S = some o)   : EqT S o.2 := by
  have h_S : EqT S S := eqt_0
  unfold f_X2_readMarks_56 at hf
  obtain ⟨v1, e1, hf⟩ := m_bndE hf
  obtain ⟨q2, hf⟩ := m_chkE hf
  obtain ⟨S2, e3, hf⟩ := m_bndE hf
  have h_S2 := eqt_I h_S e3
  obtain ⟨q4, hf⟩ := m_chkE hf
  obtain ⟨o3, ho, hf⟩ := m_calE hf
  have h_o3 := eqt_t h_S2 (fq_X2_skipBlanks ho)
  clear ho
  exact eqt_t h_o3 (fq_X2_readMarks_64  hf)
theorem fq_X2_readMarks_0 {o : Int32 × ZS} {x0 : Nat} {x1 : Nat} {S : ZS}  (hf : f_X2_readMarks_0 x0 x1 S = some o)   : EqT S o.2 := by
  have h_S : EqT S S := eqt_0
  unfold f_X2_readMarks_0 at hf
  obtain ⟨q1, hf⟩ := m_chkE hf
  obtain ⟨o1, ho, hf⟩ := m_calE hf
  have h_o1 := eqt_t h_S (fq_X2_skipBlanks ho)
  clear ho
  obtain ⟨q2, hf⟩ := m_chkE hf
  obtain ⟨b2, -, hf⟩ := m_calE hf
  obtain ⟨q3, hf⟩ := m_chkE hf
  obtain ⟨q4, hf⟩ := m_chkE hf
  obtain ⟨o3, ho, hf⟩ := m_calE hf
  have h_o3 := eqt_t h_o1 (fq_X6_at ho)
  clear ho
  obtain ⟨q5, hf⟩ := m_chkE hf
  obtain ⟨b4, -, hf⟩ := m_calE hf
  obtain ⟨q6, hf⟩ := m_chkE hf
  obtain ⟨v5, e7, hf⟩ := m_bndE hf
  obtain ⟨q8, hf⟩ := m_chkE hf
  obtain ⟨o6, ho, hf⟩ := m_calE hf
  have h_o6 := eqt_t h_o3 (fq_X6_at ho)
  clear ho
  obtain ⟨o7, ho, hf⟩ := m_calE hf
  have h_o7 := eqt_t h_o6 (fq_X2_shortMark ho)
  clear ho
  rcases m_ifE hf with ⟨-, hf⟩ | ⟨-, hf⟩
  ·
    exact eqt_t h_o7 (fq_X2_readMarks_64  hf)
  ·
    obtain ⟨q9, hf⟩ := m_chkE hf
    obtain ⟨o8, ho, hf⟩ := m_calE hf
    have h_o8 := eqt_t h_o7 (fq_X4_putMark ho)
    clear ho
    obtain ⟨q10, hf⟩ := m_chkE hf
    rcases m_ifE hf with ⟨-, hf⟩ | ⟨-, hf⟩
    ·
      exact eqt_t h_o8 (fq_X2_readMarks_56  hf)
    ·
      exact eqt_t h_o8 (fq_X2_readMarks_56  hf)
theorem fq_X2_readMarks {o : Int32 × ZS} {x0 : Nat} {x1 : Nat} {S : ZS}  (hf : f_X2_readMarks x0 x1 S = some o)   : EqT S o.2 := by
  have h_S : EqT S S := eqt_0
  unfold f_X2_readMarks at hf
  exact eqt_t h_S (fq_X2_readMarks_0  hf)
theorem fq_X11_letterOf_25 {o : Int32 × ZS} {t0 : Int32} {S : ZS}  (hf : f_X11_letterOf_25 t0 S = some o)   : EqT S o.2 := by
  have h_S : EqT S S := eqt_0
  unfold f_X11_letterOf_25 at hf
  obtain ⟨-, hf⟩ := m_chkE hf
  cases hf
  exact h_S
theorem fq_X11_letterOf_23 {o : Int32 × ZS} {S : ZS}  (hf : f_X11_letterOf_23 S = some o)   : EqT S o.2 := by
  have h_S : EqT S S := eqt_0
  unfold f_X11_letterOf_23 at hf
  exact eqt_t h_S (fq_X11_letterOf_25  hf)
theorem fq_X11_letterOf_0 {o : Int32 × ZS} {x0 : Int32} {S : ZS}  (hf : f_X11_letterOf_0 x0 S = some o)   : EqT S o.2 := by
  have h_S : EqT S S := eqt_0
  unfold f_X11_letterOf_0 at hf
  rcases m_ifE hf with ⟨-, hf⟩ | ⟨-, hf⟩
  ·
    exact eqt_t h_S (fq_X11_letterOf_23  hf)
  ·
    rcases m_ifE hf with ⟨-, hf⟩ | ⟨-, hf⟩
    ·
      exact eqt_t h_S (fq_X11_letterOf_23  hf)
    ·
      obtain ⟨v1, e1, hf⟩ := m_bndE hf
      obtain ⟨-, hf⟩ := m_chkE hf
      obtain ⟨o2, ho, hf⟩ := m_calE hf
      have h_o2 := eqt_t h_S (fq_J0_charAt_5068e ho)
      clear ho
      exact eqt_t h_o2 (fq_X11_letterOf_25  hf)
theorem fq_X11_letterOf {o : Int32 × ZS} {x0 : Int32} {S : ZS}  (hf : f_X11_letterOf x0 S = some o)   : EqT S o.2 := by
  have h_S : EqT S S := eqt_0
  unfold f_X11_letterOf at hf
  exact eqt_t h_S (fq_X11_letterOf_0  hf)
theorem fq_X11_fileLetter_0 {o : Int32 × ZS} {x0 : Int32} {S : ZS}  (hf : f_X11_fileLetter_0 x0 S = some o)   : EqT S o.2 := by
  have h_S : EqT S S := eqt_0
  unfold f_X11_fileLetter_0 at hf
  obtain ⟨v1, e1, hf⟩ := m_bndE hf
  obtain ⟨v2, e2, hf⟩ := m_bndE hf
  obtain ⟨v3, e3, hf⟩ := m_bndE hf
  obtain ⟨-, hf⟩ := m_chkE hf
  cases hf
  exact h_S
theorem fq_X11_fileLetter {o : Int32 × ZS} {x0 : Int32} {S : ZS}  (hf : f_X11_fileLetter x0 S = some o)   : EqT S o.2 := by
  have h_S : EqT S S := eqt_0
  unfold f_X11_fileLetter at hf
  exact eqt_t h_S (fq_X11_fileLetter_0  hf)
theorem fq_X11_rankDigit_0 {o : Int32 × ZS} {x0 : Int32} {S : ZS}  (hf : f_X11_rankDigit_0 x0 S = some o)   : EqT S o.2 := by
  have h_S : EqT S S := eqt_0
  unfold f_X11_rankDigit_0 at hf
  obtain ⟨v1, e1, hf⟩ := m_bndE hf
  obtain ⟨v2, e2, hf⟩ := m_bndE hf
  obtain ⟨v3, e3, hf⟩ := m_bndE hf
  obtain ⟨-, hf⟩ := m_chkE hf
  cases hf
  exact h_S
theorem fq_X11_rankDigit {o : Int32 × ZS} {x0 : Int32} {S : ZS}  (hf : f_X11_rankDigit x0 S = some o)   : EqT S o.2 := by
  have h_S : EqT S S := eqt_0
  unfold f_X11_rankDigit at hf
  exact eqt_t h_S (fq_X11_rankDigit_0  hf)
theorem fq_X4_markAt_0 {o : Int32 × ZS} {x0 : Nat} {x1 : Int32} {S : ZS}  (hf : f_X4_markAt_0 x0 x1 S = some o)   : EqT S o.2 := by
  have h_S : EqT S S := eqt_0
  unfold f_X4_markAt_0 at hf
  obtain ⟨q1, hf⟩ := m_chkE hf
  obtain ⟨v1, e2, hf⟩ := m_bndE hf
  obtain ⟨v2, e3, hf⟩ := m_bndE hf
  obtain ⟨v3, e4, hf⟩ := m_bndE hf
  cases hf
  exact h_S
theorem fq_X4_markAt {o : Int32 × ZS} {x0 : Nat} {x1 : Int32} {S : ZS}  (hf : f_X4_markAt x0 x1 S = some o)   : EqT S o.2 := by
  have h_S : EqT S S := eqt_0
  unfold f_X4_markAt at hf
  exact eqt_t h_S (fq_X4_markAt_0  hf)
theorem fq_X7_isLegal_47 {o : Int32 × ZS} {S : ZS}  (hf : f_X7_isLegal_47 S = some o)   : EqT S o.2 := by
  have h_S : EqT S S := eqt_0
  unfold f_X7_isLegal_47 at hf
  obtain ⟨-, hf⟩ := m_chkE hf
  cases hf
  exact h_S
theorem fq_X7_isLegal_83 {o : Int32 × ZS} {t0 : Int32} {S : ZS}  (hf : f_X7_isLegal_83 t0 S = some o)   : EqT S o.2 := by
  have h_S : EqT S S := eqt_0
  unfold f_X7_isLegal_83 at hf
  obtain ⟨-, hf⟩ := m_chkE hf
  cases hf
  exact h_S
theorem fq_X7_isLegal_82 {o : Int32 × ZS} {S : ZS}  (hf : f_X7_isLegal_82 S = some o)   : EqT S o.2 := by
  have h_S : EqT S S := eqt_0
  unfold f_X7_isLegal_82 at hf
  exact eqt_t h_S (fq_X7_isLegal_83  hf)
theorem fq_X7_isLegal_66 {o : Int32 × ZS} {x0 : Nat} {x1 : Nat} {x2 : Int32} {t0 : Int32} {t1 : Int32} {S : ZS}  (hf : f_X7_isLegal_66 x0 x1 x2 t0 t1 S = some o)   : EqT S o.2 := by
  have h_S : EqT S S := eqt_0
  unfold f_X7_isLegal_66 at hf
  rcases m_ifE hf with ⟨-, hf⟩ | ⟨-, hf⟩
  ·
    obtain ⟨q1, hf⟩ := m_chkE hf
    obtain ⟨o1, ho, hf⟩ := m_calE hf
    have h_o1 := eqt_t h_S (fq_X7_isSafe ho)
    clear ho
    rcases m_ifE hf with ⟨-, hf⟩ | ⟨-, hf⟩
    ·
      exact eqt_t h_o1 (fq_X7_isLegal_82  hf)
    ·
      exact eqt_t h_o1 (fq_X7_isLegal_83  hf)
  ·
    exact eqt_t h_S (fq_X7_isLegal_82  hf)
theorem fq_X7_isLegal_0 {o : Int32 × ZS} {x0 : Nat} {x1 : Nat} {x2 : Int32} {S : ZS}  (hf : f_X7_isLegal_0 x0 x1 x2 S = some o)   : EqT S o.2 := by
  have h_S : EqT S S := eqt_0
  unfold f_X7_isLegal_0 at hf
  obtain ⟨v1, e1, hf⟩ := m_bndE hf
  obtain ⟨v2, e2, hf⟩ := m_bndE hf
  obtain ⟨v3, e3, hf⟩ := m_bndE hf
  obtain ⟨v4, e4, hf⟩ := m_bndE hf
  rcases m_ifE hf with ⟨-, hf⟩ | ⟨-, hf⟩
  ·
    exact eqt_t h_S (fq_X7_isLegal_47  hf)
  ·
    rcases m_ifE hf with ⟨-, hf⟩ | ⟨-, hf⟩
    ·
      exact eqt_t h_S (fq_X7_isLegal_47  hf)
    ·
      rcases m_ifE hf with ⟨-, hf⟩ | ⟨-, hf⟩
      ·
        exact eqt_t h_S (fq_X7_isLegal_47  hf)
      ·
        obtain ⟨q5, hf⟩ := m_chkE hf
        obtain ⟨o5, ho, hf⟩ := m_calE hf
        have h_o5 := eqt_t h_S (fq_X0_reaches ho)
        clear ho
        rcases m_ifE hf with ⟨-, hf⟩ | ⟨-, hf⟩
        ·
          exact eqt_t h_o5 (fq_X7_isLegal_47  hf)
        ·
          obtain ⟨q6, hf⟩ := m_chkE hf
          obtain ⟨o6, ho, hf⟩ := m_calE hf
          have h_o6 := eqt_t h_o5 (fq_X0_becomesAnother ho)
          clear ho
          rcases m_ifE hf with ⟨-, hf⟩ | ⟨-, hf⟩
          ·
            exact eqt_t h_o6 (fq_X7_isLegal_66  hf)
          ·
            exact eqt_t h_o6 (fq_X7_isLegal_66  hf)
theorem fq_X7_isLegal {o : Int32 × ZS} {x0 : Nat} {x1 : Nat} {x2 : Int32} {S : ZS}  (hf : f_X7_isLegal x0 x1 x2 S = some o)   : EqT S o.2 := by
  have h_S : EqT S S := eqt_0
  unfold f_X7_isLegal at hf
  exact eqt_t h_S (fq_X7_isLegal_0  hf)
theorem fq_X7_legalMove_110 {o : Int32 × ZS} {self11 : Nat → Nat → Int32 → Int32 → ZS → Option (Int32 × ZS)} {self21 : Nat → Nat → Int32 → Int32 → Int32 → ZS → Option (Int32 × ZS)} {x0 : Nat} {x1 : Nat} {x3 : Int32} {x4 : Int32} {x5 : Int32} {S : ZS} (hself11 : ∀ (z0 : Nat) (z1 : Nat) (z2 : Int32) (z3 : Int32) (S : ZS) (o : Int32 × ZS), self11 z0 z1 z2 z3 S = some o → EqT S o.2) (hself21 : ∀ (z0 : Nat) (z1 : Nat) (z2 : Int32) (z3 : Int32) (z4 : Int32) (S : ZS) (o : Int32 × ZS), self21 z0 z1 z2 z3 z4 S = some o → EqT S o.2) (hf : f_X7_legalMove_110 self11 self21 x0 x1 x3 x4 x5 S = some o)   : EqT S o.2 := by
  have h_S : EqT S S := eqt_0
  unfold f_X7_legalMove_110 at hf
  obtain ⟨v1, e1, hf⟩ := m_bndE hf
  exact eqt_t h_S (hself21 _ _ _ _ _ _ _ hf)
theorem fq_X7_legalMove_104 {o : Int32 × ZS} {t0 : Int32} {S : ZS}  (hf : f_X7_legalMove_104 t0 S = some o)   : EqT S o.2 := by
  have h_S : EqT S S := eqt_0
  unfold f_X7_legalMove_104 at hf
  cases hf
  exact h_S
theorem fq_X7_legalMove_75 {o : Int32 × ZS} {self11 : Nat → Nat → Int32 → Int32 → ZS → Option (Int32 × ZS)} {self21 : Nat → Nat → Int32 → Int32 → Int32 → ZS → Option (Int32 × ZS)} {x0 : Nat} {x1 : Nat} {x3 : Int32} {x4 : Int32} {x5 : Int32} {x6 : Int32} {t0 : Int32} {S : ZS} (hself11 : ∀ (z0 : Nat) (z1 : Nat) (z2 : Int32) (z3 : Int32) (S : ZS) (o : Int32 × ZS), self11 z0 z1 z2 z3 S = some o → EqT S o.2) (hself21 : ∀ (z0 : Nat) (z1 : Nat) (z2 : Int32) (z3 : Int32) (z4 : Int32) (S : ZS) (o : Int32 × ZS), self21 z0 z1 z2 z3 z4 S = some o → EqT S o.2) (hf : f_X7_legalMove_75 self11 self21 x0 x1 x3 x4 x5 x6 t0 S = some o)   : EqT S o.2 := by
  have h_S : EqT S S := eqt_0
  unfold f_X7_legalMove_75 at hf
  rcases m_ifE hf with ⟨-, hf⟩ | ⟨-, hf⟩
  ·
    obtain ⟨v1, e1, hf⟩ := m_bndE hf
    exact eqt_t h_S (fq_X7_legalMove_110 hself11 hself21 hf)
  ·
    rcases m_ifE hf with ⟨-, hf⟩ | ⟨-, hf⟩
    ·
      exact eqt_t h_S (fq_X7_legalMove_104  hf)
    ·
      obtain ⟨v2, e2, hf⟩ := m_bndE hf
      obtain ⟨v3, e3, hf⟩ := m_bndE hf
      obtain ⟨v4, e4, hf⟩ := m_bndE hf
      exact eqt_t h_S (fq_X7_legalMove_104  hf)
theorem fq_X7_legalMove_21s {o : Int32 × ZS} {self11 : Nat → Nat → Int32 → Int32 → ZS → Option (Int32 × ZS)} {self21 : Nat → Nat → Int32 → Int32 → Int32 → ZS → Option (Int32 × ZS)} {x0 : Nat} {x1 : Nat} {x3 : Int32} {x4 : Int32} {x5 : Int32} {S : ZS} (hself11 : ∀ (z0 : Nat) (z1 : Nat) (z2 : Int32) (z3 : Int32) (S : ZS) (o : Int32 × ZS), self11 z0 z1 z2 z3 S = some o → EqT S o.2) (hself21 : ∀ (z0 : Nat) (z1 : Nat) (z2 : Int32) (z3 : Int32) (z4 : Int32) (S : ZS) (o : Int32 × ZS), self21 z0 z1 z2 z3 z4 S = some o → EqT S o.2) (hf : f_X7_legalMove_21s self11 self21 x0 x1 x3 x4 x5 S = some o)   : EqT S o.2 := by
  have h_S : EqT S S := eqt_0
  unfold f_X7_legalMove_21s at hf
  rcases m_ifE hf with ⟨-, hf⟩ | ⟨-, hf⟩
  ·
    obtain ⟨v1, e1, hf⟩ := m_bndE hf
    exact eqt_t h_S (hself11 _ _ _ _ _ _ hf)
  ·
    obtain ⟨v2, e2, hf⟩ := m_bndE hf
    obtain ⟨v3, e3, hf⟩ := m_bndE hf
    obtain ⟨q4, hf⟩ := m_chkE hf
    obtain ⟨o4, ho, hf⟩ := m_calE hf
    have h_o4 := eqt_t h_S (fq_X0_reaches ho)
    clear ho
    rcases m_ifE hf with ⟨-, hf⟩ | ⟨-, hf⟩
    ·
      exact eqt_t h_o4 (fq_X7_legalMove_110 hself11 hself21 hf)
    ·
      obtain ⟨q5, hf⟩ := m_chkE hf
      obtain ⟨o5, ho, hf⟩ := m_calE hf
      have h_o5 := eqt_t h_o4 (fq_X7_isSafe ho)
      clear ho
      rcases m_ifE hf with ⟨-, hf⟩ | ⟨-, hf⟩
      ·
        exact eqt_t h_o5 (fq_X7_legalMove_110 hself11 hself21 hf)
      ·
        obtain ⟨q6, hf⟩ := m_chkE hf
        obtain ⟨o6, ho, hf⟩ := m_calE hf
        have h_o6 := eqt_t h_o5 (fq_X0_becomesAnother ho)
        clear ho
        rcases m_ifE hf with ⟨-, hf⟩ | ⟨-, hf⟩
        ·
          exact eqt_t h_o6 (fq_X7_legalMove_75 hself11 hself21 hf)
        ·
          exact eqt_t h_o6 (fq_X7_legalMove_75 hself11 hself21 hf)
theorem fq_X7_legalMove_21 {self11 : Nat → Nat → Int32 → Int32 → ZS → Option (Int32 × ZS)} (hself11 : ∀ (z0 : Nat) (z1 : Nat) (z2 : Int32) (z3 : Int32) (S : ZS) (o : Int32 × ZS), self11 z0 z1 z2 z3 S = some o → EqT S o.2) (n : Nat) : ∀ (y0 : Nat) (y1 : Nat) (y2 : Int32) (y3 : Int32) (y4 : Int32) (S : ZS) (o : Int32 × ZS), f_X7_legalMove_21 self11 n y0 y1 y2 y3 y4 S = some o → EqT S o.2 := by
  induction n with
  | zero => intro y0 y1 y2 y3 y4 S o hf; cases hf
  | succ n ih => intro y0 y1 y2 y3 y4 S o hf; exact fq_X7_legalMove_21s hself11 ih hf
theorem fq_X7_legalMove_11s {o : Int32 × ZS} {self11 : Nat → Nat → Int32 → Int32 → ZS → Option (Int32 × ZS)} {x0 : Nat} {x1 : Nat} {x3 : Int32} {x4 : Int32} {S : ZS} (hself11 : ∀ (z0 : Nat) (z1 : Nat) (z2 : Int32) (z3 : Int32) (S : ZS) (o : Int32 × ZS), self11 z0 z1 z2 z3 S = some o → EqT S o.2) (hf : f_X7_legalMove_11s self11 x0 x1 x3 x4 S = some o)   : EqT S o.2 := by
  have h_S : EqT S S := eqt_0
  unfold f_X7_legalMove_11s at hf
  rcases m_ifE hf with ⟨-, hf⟩ | ⟨-, hf⟩
  ·
    cases hf
    exact h_S
  ·
    exact eqt_t h_S (fq_X7_legalMove_21 hself11 _ _ _ _ _ _ _ _ hf)
theorem fq_X7_legalMove_11   (n : Nat) : ∀ (y0 : Nat) (y1 : Nat) (y2 : Int32) (y3 : Int32) (S : ZS) (o : Int32 × ZS), f_X7_legalMove_11  n y0 y1 y2 y3 S = some o → EqT S o.2 := by
  induction n with
  | zero => intro y0 y1 y2 y3 S o hf; cases hf
  | succ n ih => intro y0 y1 y2 y3 S o hf; exact fq_X7_legalMove_11s  ih hf
theorem fq_X7_legalMove_0 {o : Int32 × ZS} {x0 : Nat} {x1 : Nat} {x2 : Int32} {S : ZS}  (hf : f_X7_legalMove_0 x0 x1 x2 S = some o)   : EqT S o.2 := by
  have h_S : EqT S S := eqt_0
  unfold f_X7_legalMove_0 at hf
  rcases m_ifE hf with ⟨-, hf⟩ | ⟨-, hf⟩
  ·
    exact eqt_t h_S (fq_X7_legalMove_11  _ _ _ _ _ _ _ hf)
  ·
    cases hf
    exact h_S
theorem fq_X7_legalMove {o : Int32 × ZS} {x0 : Nat} {x1 : Nat} {x2 : Int32} {S : ZS}  (hf : f_X7_legalMove x0 x1 x2 S = some o)   : EqT S o.2 := by
  have h_S : EqT S S := eqt_0
  unfold f_X7_legalMove at hf
  exact eqt_t h_S (fq_X7_legalMove_0  hf)
theorem fq_X11_byteOf_0 {o : Int32 × ZS} {x0 : Int64} {x2 : Int32} {S : ZS}  (hf : f_X11_byteOf_0 x0 x2 S = some o)   : EqT S o.2 := by
  have h_S : EqT S S := eqt_0
  unfold f_X11_byteOf_0 at hf
  obtain ⟨v1, e1, hf⟩ := m_bndE hf
  obtain ⟨v2, e2, hf⟩ := m_bndE hf
  obtain ⟨v3, e3, hf⟩ := m_bndE hf
  obtain ⟨v4, e4, hf⟩ := m_bndE hf
  obtain ⟨v5, e5, hf⟩ := m_bndE hf
  obtain ⟨-, hf⟩ := m_chkE hf
  cases hf
  exact h_S
theorem fq_X11_byteOf {o : Int32 × ZS} {x0 : Int64} {x2 : Int32} {S : ZS}  (hf : f_X11_byteOf x0 x2 S = some o)   : EqT S o.2 := by
  have h_S : EqT S S := eqt_0
  unfold f_X11_byteOf at hf
  exact eqt_t h_S (fq_X11_byteOf_0  hf)
theorem fq_X11_cut_15 {o : Int32 × ZS} {S : ZS}  (hf : f_X11_cut_15 S = some o)   : EqT S o.2 := by
  have h_S : EqT S S := eqt_0
  unfold f_X11_cut_15 at hf
  obtain ⟨-, hf⟩ := m_chkE hf
  cases hf
  exact h_S
theorem fq_X11_cut_0 {o : Int32 × ZS} {x0 : Nat} {x1 : Int32} {S : ZS}  (hf : f_X11_cut_0 x0 x1 S = some o)   : EqT S o.2 := by
  have h_S : EqT S S := eqt_0
  unfold f_X11_cut_0 at hf
  rcases m_ifE hf with ⟨-, hf⟩ | ⟨-, hf⟩
  ·
    exact eqt_t h_S (fq_X11_cut_15  hf)
  ·
    obtain ⟨q1, hf⟩ := m_chkE hf
    obtain ⟨b1, -, hf⟩ := m_calE hf
    obtain ⟨q2, hf⟩ := m_chkE hf
    obtain ⟨o2, ho, hf⟩ := m_calE hf
    have h_o2 := eqt_t h_S (fq_X6_size ho)
    clear ho
    rcases m_ifE hf with ⟨-, hf⟩ | ⟨-, hf⟩
    ·
      obtain ⟨q3, hf⟩ := m_chkE hf
      obtain ⟨b3, -, hf⟩ := m_calE hf
      obtain ⟨q4, hf⟩ := m_chkE hf
      obtain ⟨o4, ho, hf⟩ := m_calE hf
      have h_o4 := eqt_t h_o2 (fq_X6_keep ho)
      clear ho
      obtain ⟨-, hf⟩ := m_chkE hf
      cases hf
      exact h_o4
    ·
      exact eqt_t h_o2 (fq_X11_cut_15  hf)
theorem fq_X11_cut {o : Int32 × ZS} {x0 : Nat} {x1 : Int32} {S : ZS}  (hf : f_X11_cut x0 x1 S = some o)   : EqT S o.2 := by
  have h_S : EqT S S := eqt_0
  unfold f_X11_cut at hf
  exact eqt_t h_S (fq_X11_cut_0  hf)
theorem fq_X11_out_0 {o : Int32 × ZS} {x0 : Nat} {x1 : Int32} {S : ZS}  (hf : f_X11_out_0 x0 x1 S = some o)   : EqT S o.2 := by
  have h_S : EqT S S := eqt_0
  unfold f_X11_out_0 at hf
  obtain ⟨q1, hf⟩ := m_chkE hf
  obtain ⟨b1, -, hf⟩ := m_calE hf
  obtain ⟨q2, hf⟩ := m_chkE hf
  obtain ⟨o2, ho, hf⟩ := m_calE hf
  have h_o2 := eqt_t h_S (fq_X6_at ho)
  clear ho
  cases hf
  exact h_o2
theorem fq_X11_out {o : Int32 × ZS} {x0 : Nat} {x1 : Int32} {S : ZS}  (hf : f_X11_out x0 x1 S = some o)   : EqT S o.2 := by
  have h_S : EqT S S := eqt_0
  unfold f_X11_out at hf
  exact eqt_t h_S (fq_X11_out_0  hf)
theorem fq_X11_nodes_0 {o : Int32 × ZS} {x0 : Nat} {S : ZS}  (hf : f_X11_nodes_0 x0 S = some o)   : EqT S o.2 := by
  have h_S : EqT S S := eqt_0
  unfold f_X11_nodes_0 at hf
  obtain ⟨q1, hf⟩ := m_chkE hf
  obtain ⟨b1, -, hf⟩ := m_calE hf
  obtain ⟨q2, hf⟩ := m_chkE hf
  cases hf
  exact h_S
theorem fq_X11_nodes {o : Int32 × ZS} {x0 : Nat} {S : ZS}  (hf : f_X11_nodes x0 S = some o)   : EqT S o.2 := by
  have h_S : EqT S S := eqt_0
  unfold f_X11_nodes at hf
  exact eqt_t h_S (fq_X11_nodes_0  hf)
theorem fq_X11_here_0 {o : Int32 × ZS} {x0 : Nat} {S : ZS}  (hf : f_X11_here_0 x0 S = some o)   : EqT S o.2 := by
  have h_S : EqT S S := eqt_0
  unfold f_X11_here_0 at hf
  obtain ⟨q1, hf⟩ := m_chkE hf
  cases hf
  exact h_S
theorem fq_X11_here {o : Int32 × ZS} {x0 : Nat} {S : ZS}  (hf : f_X11_here x0 S = some o)   : EqT S o.2 := by
  have h_S : EqT S S := eqt_0
  unfold f_X11_here at hf
  exact eqt_t h_S (fq_X11_here_0  hf)
theorem fq_X11_move_0 {o : Int32 × ZS} {x0 : Nat} {x1 : Int32} {S : ZS}  (hf : f_X11_move_0 x0 x1 S = some o)   : EqT S o.2 := by
  have h_S : EqT S S := eqt_0
  unfold f_X11_move_0 at hf
  obtain ⟨q1, hf⟩ := m_chkE hf
  obtain ⟨b1, -, hf⟩ := m_calE hf
  obtain ⟨q2, hf⟩ := m_chkE hf
  obtain ⟨b2, -, hf⟩ := m_calE hf
  obtain ⟨q3, hf⟩ := m_chkE hf
  obtain ⟨o3, ho, hf⟩ := m_calE hf
  have h_o3 := eqt_t h_S (fq_X7_legalMove ho)
  clear ho
  cases hf
  exact h_o3
theorem fq_X11_move {o : Int32 × ZS} {x0 : Nat} {x1 : Int32} {S : ZS}  (hf : f_X11_move x0 x1 S = some o)   : EqT S o.2 := by
  have h_S : EqT S S := eqt_0
  unfold f_X11_move at hf
  exact eqt_t h_S (fq_X11_move_0  hf)
theorem fq_X11_result_0 {o : Int32 × ZS} {x0 : Nat} {S : ZS}  (hf : f_X11_result_0 x0 S = some o)   : EqT S o.2 := by
  have h_S : EqT S S := eqt_0
  unfold f_X11_result_0 at hf
  obtain ⟨q1, hf⟩ := m_chkE hf
  obtain ⟨b1, -, hf⟩ := m_calE hf
  obtain ⟨q2, hf⟩ := m_chkE hf
  cases hf
  exact h_S
theorem fq_X11_result {o : Int32 × ZS} {x0 : Nat} {S : ZS}  (hf : f_X11_result x0 S = some o)   : EqT S o.2 := by
  have h_S : EqT S S := eqt_0
  unfold f_X11_result at hf
  exact eqt_t h_S (fq_X11_result_0  hf)
theorem fq_X11_tags_0 {o : Int32 × ZS} {x0 : Nat} {S : ZS}  (hf : f_X11_tags_0 x0 S = some o)   : EqT S o.2 := by
  have h_S : EqT S S := eqt_0
  unfold f_X11_tags_0 at hf
  obtain ⟨q1, hf⟩ := m_chkE hf
  obtain ⟨b1, -, hf⟩ := m_calE hf
  obtain ⟨q2, hf⟩ := m_chkE hf
  cases hf
  exact h_S
theorem fq_X11_tags {o : Int32 × ZS} {x0 : Nat} {S : ZS}  (hf : f_X11_tags x0 S = some o)   : EqT S o.2 := by
  have h_S : EqT S S := eqt_0
  unfold f_X11_tags at hf
  exact eqt_t h_S (fq_X11_tags_0  hf)
end
section
noncomputable def cM (k j : Nat) : Nat := if k = 2 ∧ j = 3 then 4 else if k = 2 ∧ j = 6 then 1 else if k = 2 ∧ j = 7 then 1 else if k = 8 ∧ j = 1 then 1 else if k = 11 ∧ j = 0 then 2 else if k = 11 ∧ j = 1 then 3 else if k = 11 ∧ j = 7 then 4 else 0
noncomputable def cT (k j : Nat) : Nat := if k = 2 ∧ j = 2 then 2 else if k = 2 ∧ j = 6 then 1 else if k = 2 ∧ j = 7 then 1 else if k = 4 ∧ j = 6 then 0 else if k = 5 ∧ j = 0 then 2 else if k = 8 ∧ j = 1 then 1 else if k = 10 ∧ j = 0 then 0 else if k = 10 ∧ j = 1 then 0 else if k = 11 ∧ j = 0 then 2 else if k = 11 ∧ j = 1 then 3 else 4
noncomputable def pT (k j : Nat) : Nat × Nat := if k = 0 ∧ j = 0 then (14, 64) else if k = 1 ∧ j = 0 then (0, 0) else if k = 1 ∧ j = 1 then (4, 0) else if k = 1 ∧ j = 2 then (16, 301) else if k = 1 ∧ j = 4 then (17, 8) else if k = 1 ∧ j = 7 then (14, 301) else if k = 2 ∧ j = 0 then (8, 0) else if k = 2 ∧ j = 1 then (5, 0) else if k = 2 ∧ j = 2 then (6, 0) else if k = 2 ∧ j = 3 then (1, 0) else if k = 2 ∧ j = 6 then (6, 0) else if k = 2 ∧ j = 7 then (6, 0) else if k = 2 ∧ j = 8 then (14, 7) else if k = 2 ∧ j = 9 then (14, 7) else if k = 2 ∧ j = 10 then (15, 7) else if k = 2 ∧ j = 11 then (15, 7) else if k = 3 ∧ j = 0 then (9, 0) else if k = 3 ∧ j = 1 then (15, 7) else if k = 4 ∧ j = 6 then (6, 0) else if k = 5 ∧ j = 0 then (6, 0) else if k = 7 ∧ j = 0 then (0, 0) else if k = 7 ∧ j = 1 then (0, 0) else if k = 8 ∧ j = 0 then (7, 0) else if k = 8 ∧ j = 1 then (6, 0) else if k = 8 ∧ j = 10 then (14, 64) else if k = 9 ∧ j = 0 then (7, 0) else if k = 10 ∧ j = 0 then (6, 0) else if k = 10 ∧ j = 1 then (6, 0) else if k = 11 ∧ j = 0 then (6, 0) else if k = 11 ∧ j = 1 then (6, 0) else if k = 11 ∧ j = 2 then (7, 0) else if k = 11 ∧ j = 3 then (8, 0) else if k = 11 ∧ j = 4 then (9, 0) else if k = 11 ∧ j = 5 then (2, 0) else if k = 11 ∧ j = 6 then (3, 0) else if k = 11 ∧ j = 7 then (1, 0) else if k = 11 ∧ j = 9 then (0, 0) else (99, 0)
noncomputable def bT (k j : Nat) : Int × Int := if k = 0 ∧ j = 1 then (0, 63) else if k = 0 ∧ j = 2 then (0, 63) else if k = 0 ∧ j = 3 then (0, 1) else if k = 0 ∧ j = 5 then (-1, 63) else if k = 1 ∧ j = 3 then (0, 300) else if k = 1 ∧ j = 5 then (0, 8) else if k = 2 ∧ j = 4 then (0, 90100) else if k = 4 ∧ j = 4 then (0, 4) else if k = 5 ∧ j = 1 then (0, 90100) else if k = 8 ∧ j = 2 then (-2, 2) else if k = 8 ∧ j = 6 then (-1, 63) else if k = 8 ∧ j = 7 then (0, 30) else if k = 8 ∧ j = 8 then (-1, 1) else if k = 8 ∧ j = 9 then (0, 65535) else if k = 8 ∧ j = 11 then (0, 64) else if k = 11 ∧ j = 8 then (0, 300) else tF
noncomputable def zcap (S : ZS) (b : Nat) : Nat := if b = 0 then 0 else zN S b
noncomputable def rc (a : Nat) : Nat := if a = 3 then 3 else if a = 15 ∨ a = 30 ∨ a = 43 ∨ a = 44 then 1 else if a = 2 ∨ a = 33 ∨ a = 34 then 2 else if a = 35 ∨ a = 99 then 4 else 0
noncomputable def rL (a : Nat) : Nat := if rc a = 3 then 90000 else if rc a = 1 ∨ rc a = 2 then 2000 else 200
noncomputable def rK (a : Nat) : Nat := if rc a = 3 then 185000 else if rc a = 1 ∨ rc a = 2 then 4100 else 410
theorem rc_le (a : Nat) : rc a ≤ 4 := by
  unfold rc; split
  · omega
  · split
    · omega
    · split
      · omega
      · split <;> omega
theorem rc_3 {a : Nat} (h : 4 ≤ rc a) : a = 35 ∨ a = 99 := by
  unfold rc at h
  split at h
  · omega
  · split at h
    · omega
    · split at h
      · omega
      · split at h
        · assumption
        · omega
theorem rc_new {a : Nat} (h : 109 ≤ a) : rc a = 0 := by
  unfold rc
  rw [if_neg (by omega), if_neg (by omega), if_neg (by omega), if_neg (by omega)]
noncomputable def ZTp (S : ZS) : Prop := ∀ a j, zK S a < 18 → (pT (zK S a) j).1 ≠ 99 → ∃ b, zP S j a = some b ∧ zK S b = (pT (zK S a) j).1 ∧ ((pT (zK S a) j).2 = 0 ∨ zN S b = (pT (zK S a) j).2)
noncomputable def ZTr (S : ZS) : Prop := ∀ a, zK S a = 6 → ∃ b, zP S 0 a = some b ∧ (b = 0 ∨ zK S b = 13) ∧ 0 ≤ (zI S 1 a).toInt ∧ (zI S 1 a).toInt ≤ (zcap S b : Int) ∧ (zI S 1 a).toInt ≤ (rL a : Int) ∧ zcap S b ≤ rK a
noncomputable def ZTi (S : ZS) : Prop := ∀ a j, zK S a < 18 → (bT (zK S a) j).1 ≤ (zI S j a).toInt ∧ (zI S j a).toInt ≤ (bT (zK S a) j).2
noncomputable def ZTb (S : ZS) : Prop := ∀ a, (zK S a = 15 → ∀ i, i < 7 → ∃ b, zB S a i = some b ∧ zK S b = 0) ∧ (zK S a = 16 → ∀ i b, zB S a i = some b → zK S b = 4) ∧ (zK S a = 17 → ∀ i b, zB S a i = some b → zK S b = 10)
noncomputable def ZTc (S : ZS) : Prop := ∀ a, zK S a = 13 → ∀ i, (0 : Int) ≤ (zA S a i).toInt ∧ (zA S a i).toInt ≤ (65535 : Int)
noncomputable def ZTd (S : ZS) : Prop := ∀ a j, zK S a < 18 → ∀ b, zP S j a = some b → cM (zK S a) j ≤ rc b ∧ rc b ≤ cT (zK S a) j
noncomputable def ZTg (S : ZS) : Prop := ∀ a, zK S a = 1 → ∀ b, zP S 4 a = some b → ∀ i : Nat, (i : Int) < (zI S 5 a).toInt → ∃ c, zB S b i = some c
/-- no two rows have the same characters -/
noncomputable def ZTu (S : ZS) : Prop := ∀ a a' b, zK S a = 6 → zK S a' = 6 → zP S 0 a = some b → zP S 0 a' = some b → b = 0 ∨ a = a'
noncomputable def ZT (S : ZS) : Prop := ZTp S ∧ ZTr S ∧ ZTi S ∧ ZTb S ∧ Fh S ∧ 18 ≤ zK S 0 ∧ ZTc S ∧ ZTd S ∧ ZTg S ∧ zc S = 0 ∧ 109 ≤ zt S ∧ ZTu S
theorem zt_x {S S' : ZS} (h : ZT S) (e : EqT S S') (hp : ∀ a j, zK S a < 18 → zP S' j a = zP S j a) (hi : ∀ a j, zK S a < 18 → (bT (zK S a) j).1 ≤ (zI S' j a).toInt ∧ (zI S' j a).toInt ≤ (bT (zK S a) j).2) (hr : ∀ a, zK S a = 6 → 0 ≤ (zI S' 1 a).toInt ∧ (zI S' 1 a).toInt ≤ (zI S 1 a).toInt) (hc : ∀ a, zK S a = 13 → zA S' a = zA S a) (hg : ∀ a, zK S a = 1 → (zI S' 5 a).toInt ≤ (zI S 5 a).toInt) (hz : zc S' = zc S) : ZT S' := by
  obtain ⟨h1, h2, h3, h4, h5, h6, h7, h8, h9, h10, h11⟩ := h
  obtain ⟨e1, e2, e3, e4, e5⟩ := e
  refine ⟨?_, ?_, ?_, ?_, ?_, ?_, ?_, ?_, ?_, ?_, ?_⟩
  · intro a j ha hj
    rw [e3] at ha hj ⊢
    rw [hp a j ha, e4]
    exact h1 a j ha hj
  · intro a ha
    rw [e3] at ha
    obtain ⟨b, c1, c2, c3, c4, c5, c6⟩ := h2 a ha
    have := hr a ha
    refine ⟨b, ?_, ?_, this.1, ?_, by omega, ?_⟩
    · rw [hp a 0 (by omega)]; exact c1
    · rw [e3]; exact c2
    · unfold zcap at c4 ⊢; rw [e4]; omega
    · unfold zcap; rw [e4]; exact c6
  · intro a j ha
    rw [e3] at ha ⊢
    exact hi a j ha
  · intro a
    rw [e3, e5]
    exact h4 a
  · intro a ha
    rw [e3]; exact h5 a (by rw [← e1]; exact ha)
  · rw [e3]; exact h6
  · intro a ha i
    rw [e3] at ha
    rw [hc a ha]; exact h7 a ha i
  · intro a j ha b hb
    rw [e3] at ha ⊢
    rw [hp a j ha] at hb
    exact h8 a j ha b hb
  · intro a ha b hb i hi
    rw [e3] at ha
    rw [hp a 4 (by omega)] at hb
    rw [e5]
    exact h9 a ha b hb i (by have := hg a ha; omega)
  · rw [hz]; exact h10
  · refine ⟨by rw [e1]; exact h11.1, fun a a' b k1 k2 p1 p2 => ?_⟩
    rw [e3] at k1 k2
    rw [hp a 0 (by omega)] at p1
    rw [hp a' 0 (by omega)] at p2
    exact h11.2 a a' b k1 k2 p1 p2
theorem zt_I0 {S : ZS} {j a k : Nat} {v : Int32} (h : ZT S) (hk : zK S a = k) (hn : k = 6 ∧ j = 1 → 0 ≤ v.toInt ∧ v.toInt ≤ (zI S 1 a).toInt) (hg : k = 1 ∧ j = 5 → v.toInt ≤ (zI S 5 a).toInt) (hv : (bT k j).1 ≤ v.toInt ∧ v.toInt ≤ (bT k j).2) : ZT (zsI S j a v) := by
  refine zt_x h ⟨rfl, rfl, rfl, rfl, rfl⟩ (fun _ _ _ => rfl) (fun b i hb => ?_) (fun b hb => ?_) (fun _ _ => rfl) (fun b hb => ?_) rfl
  · show _ ≤ (va_up (zI S) j (va_up (zI S j) a v) i b).toInt ∧ (va_up (zI S) j (va_up (zI S j) a v) i b).toInt ≤ _
    by_cases e1 : i = j
    · subst e1
      rw [va_up_self]
      by_cases e2 : b = a
      · subst e2; rw [va_up_self, hk]; exact hv
      · rw [va_up_ne _ _ e2]; exact h.2.2.1 b i hb
    · rw [va_up_ne _ _ e1]; exact h.2.2.1 b i hb
  · show 0 ≤ (va_up (zI S) j (va_up (zI S j) a v) 1 b).toInt ∧ (va_up (zI S) j (va_up (zI S j) a v) 1 b).toInt ≤ (zI S 1 b).toInt
    have hh : 0 ≤ (zI S 1 b).toInt := by
      obtain ⟨c, -, -, c1, -⟩ := h.2.1 b hb
      exact c1
    by_cases e1 : 1 = j
    · subst e1
      rw [va_up_self]
      by_cases e2 : b = a
      · subst e2; rw [va_up_self]; exact hn ⟨by rw [← hk]; exact hb, rfl⟩
      · rw [va_up_ne _ _ e2]; exact ⟨hh, Int.le_refl _⟩
    · rw [va_up_ne _ _ e1]; exact ⟨hh, Int.le_refl _⟩
  · show (va_up (zI S) j (va_up (zI S j) a v) 5 b).toInt ≤ (zI S 5 b).toInt
    by_cases e1 : 5 = j
    · subst e1
      rw [va_up_self]
      by_cases e2 : b = a
      · subst e2; rw [va_up_self]; exact hg ⟨by rw [← hk]; exact hb, rfl⟩
      · rw [va_up_ne _ _ e2]; exact Int.le_refl _
    · rw [va_up_ne _ _ e1]; exact Int.le_refl _
theorem zt_I {S : ZS} {j a k : Nat} {v : Int32} (h : ZT S) (hk : zK S a = k) (hn : ¬ (k = 6 ∧ j = 1) ∧ ¬ (k = 1 ∧ j = 5)) (hv : (bT k j).1 ≤ v.toInt ∧ v.toInt ≤ (bT k j).2) : ZT (zsI S j a v) := zt_I0 h hk (fun e => absurd e hn.1) (fun e => absurd e hn.2) hv
theorem zt_W {S : ZS} {j a k : Nat} {v : Int32} (h : ZT S) (hk : zK S a = k) (hn : ¬ (k = 6 ∧ j = 1) ∧ ¬ (k = 1 ∧ j = 5)) (hv : bT k j = tF) : ZT (zsI S j a v) := zt_I h hk hn (by rw [hv]; exact tf_b v)
theorem zt_T {S : ZS} {a : Nat} {v : Int32} (h : ZT S) (hk : zK S a = 1) (h1 : 0 ≤ v.toInt) (h2 : v.toInt ≤ (zI S 5 a).toInt) : ZT (zsI S 5 a v) := zt_I0 h hk (fun e => absurd e.1 (by decide)) (fun _ => h2) (by
  have := h.2.2.1 a 5 (by omega)
  rw [hk] at this
  exact ⟨h1, Int.le_trans h2 this.2⟩)
theorem zt_len {S : ZS} {a : Nat} {v : Int32} (h : ZT S) (hk : zK S a = 6) (h1 : 0 ≤ v.toInt) (h2 : v.toInt ≤ (zI S 1 a).toInt) : ZT (zsI S 1 a v) := zt_I0 h hk (fun _ => ⟨h1, h2⟩) (fun e => absurd e.1 (by decide)) (by
  have e : bT 6 1 = tF := rfl
  rw [e]; exact tf_b v)
theorem zt_A {S : ZS} {a i : Nat} {v : Int32} (h : ZT S) (hk : zK S a = 14) : ZT (zsA S a i v) := zt_x h ⟨rfl, rfl, rfl, rfl, rfl⟩ (fun _ _ _ => rfl) (fun b i hb => h.2.2.1 b i hb) (fun b hb => ⟨by obtain ⟨c, -, -, c1, -⟩ := h.2.1 b hb; exact c1, Int.le_refl _⟩) (fun b hb => va_up_ne _ _ (fun e => by rw [e, hk] at hb; exact absurd hb (by decide))) (fun _ _ => Int.le_refl _) rfl
theorem zt_C {S : ZS} {b a sp dp n : Nat} (h : ZT S) (hk : zK S a = 14) : ZT (zsC S b a sp dp n) := zt_x h ⟨rfl, rfl, rfl, rfl, rfl⟩ (fun _ _ _ => rfl) (fun b i hb => h.2.2.1 b i hb) (fun b hb => ⟨by obtain ⟨c, -, -, c1, -⟩ := h.2.1 b hb; exact c1, Int.le_refl _⟩) (fun b hb => va_up_ne _ _ (fun e => by rw [e, hk] at hb; exact absurd hb (by decide))) (fun _ _ => Int.le_refl _) rfl
theorem zt_P {S : ZS} {j a k b : Nat} (h : ZT S) (hk : zK S a = k) (hn : ¬ k = 6 ∧ ¬ (k = 1 ∧ j = 4)) (hp : (pT k j).1 = 99 ∨ (zK S b = (pT k j).1 ∧ (pT k j).2 = 0)) (hd : cM k j ≤ rc b ∧ rc b ≤ cT k j) : ZT (zsP S j a (some b)) := by
  obtain ⟨h1, h2, h3, h4, h5, h6, h7, h8, h9, h10, h11⟩ := h
  refine ⟨?_, ?_, h3, h4, h5, h6, h7, ?_, ?_, h10, h11.1, ?_⟩
  · intro c i hc hi
    have hc' : zK S c < 18 := hc
    have hi' : (pT (zK S c) i).1 ≠ 99 := hi
    show ∃ d, va_up (zP S) j (va_up (zP S j) a (some b)) i c = some d ∧ zK S d = (pT (zK S c) i).1 ∧ ((pT (zK S c) i).2 = 0 ∨ zN S d = (pT (zK S c) i).2)
    by_cases e1 : i = j
    · subst e1
      rw [va_up_self]
      by_cases e2 : c = a
      · subst e2
        rw [va_up_self]
        rw [hk] at hi' ⊢
        rcases hp with hp | hp
        · exact absurd hp hi'
        · exact ⟨b, rfl, hp.1, Or.inl hp.2⟩
      · rw [va_up_ne _ _ e2]; exact h1 c i hc' hi'
    · rw [va_up_ne _ _ e1]; exact h1 c i hc' hi'
  · intro c hc
    have hc' : zK S c = 6 := hc
    have e2 : c ≠ a := fun e => by rw [e, hk] at hc'; exact hn.1 hc'
    show ∃ d, va_up (zP S) j (va_up (zP S j) a (some b)) 0 c = some d ∧ _
    by_cases e1 : 0 = j
    · subst e1
      rw [va_up_self, va_up_ne _ _ e2]; exact h2 c hc'
    · rw [va_up_ne _ _ e1]; exact h2 c hc'
  · intro c i hc d hd'
    have hc' : zK S c < 18 := hc
    have hd2 : va_up (zP S) j (va_up (zP S j) a (some b)) i c = some d := hd'
    by_cases e1 : i = j
    · subst e1
      rw [va_up_self] at hd2
      by_cases e2 : c = a
      · subst e2
        rw [va_up_self] at hd2
        cases hd2
        show cM (zK S c) i ≤ rc b ∧ rc b ≤ cT (zK S c) i
        rw [hk]; exact hd
      · rw [va_up_ne _ _ e2] at hd2; exact h8 c i hc' d hd2
    · rw [va_up_ne _ _ e1] at hd2; exact h8 c i hc' d hd2
  · intro c hc d hd' i hi
    have hc' : zK S c = 1 := hc
    have hd2 : va_up (zP S) j (va_up (zP S j) a (some b)) 4 c = some d := hd'
    by_cases e1 : 4 = j
    · subst e1
      rw [va_up_self] at hd2
      by_cases e2 : c = a
      · subst e2
        exact absurd ⟨by rw [← hk]; exact hc', rfl⟩ hn.2
      · rw [va_up_ne _ _ e2] at hd2; exact h9 c hc' d hd2 i hi
    · rw [va_up_ne _ _ e1] at hd2; exact h9 c hc' d hd2 i hi
  · have hq : ∀ c, zK S c = 6 → zP (zsP S j a (some b)) 0 c = zP S 0 c := fun c hc => by
      show va_up (zP S) j (va_up (zP S j) a (some b)) 0 c = _
      by_cases e1 : 0 = j
      · subst e1
        rw [va_up_self, va_up_ne _ _ (fun e => by rw [e, hk] at hc; exact hn.1 hc)]
      · rw [va_up_ne _ _ e1]
    intro c c' d k1 k2 p1 p2
    rw [hq c k1] at p1
    rw [hq c' k2] at p2
    exact h11.2 c c' d k1 k2 p1 p2
theorem ti_inN {v : Int32} {m n : Nat} (hm : m = n) (h1 : 0 ≤ v.toInt) (h2 : v.toInt < n) : ¬ (v < 0 ∨ m ≤ v.toNatClampNeg) := by
  rw [hm]; exact ti_in h1 h2
theorem ok_calR {α β : Type} {o : Option α} {k : α → Option β} {Q : β → Prop} {y : α} (h : o = some y) (hk : Ok (k y) Q) : Ok (m_cal o k) Q := by
  rw [h]; exact hk
theorem ok_cal2R {α β : Type} {o : Option (α × ZS)} {k : α → ZS → Option β} {Q : β → Prop} {r : α} {S : ZS} (h : o = some (r, S)) (hk : Ok (k r S) Q) : Ok (m_cal2 o k) Q := by
  rw [h]; exact hk
theorem ok_opt {β : Type} {x : Option Nat} {a : Option β} {k : Nat → Option β} {Q : β → Prop} (h1 : x = none → Ok a Q) (h2 : ∀ b, x = some b → Ok (k b) Q) : Ok (m_opt x a k) Q := by
  cases x with
  | none => exact h1 rfl
  | some b => exact h2 b rfl
theorem roz {α : Type} {e : Option (α × ZS)} {S : ZS} {R : α × ZS → Prop} (h : Ok e (fun o => o.2 = S ∧ R o)) : ∃ r, e = some (r, S) ∧ R (r, S) := by
  obtain ⟨⟨r, st⟩, h1, h2, h3⟩ := h
  cases h2
  exact ⟨r, h1, h3⟩
theorem T_0_0 {S : ZS} {a : Nat} (h : ZT S) (hk : zK S a = 0) : ∃ b, zP S 0 a = some b ∧ zK S b = 14 ∧ zN S b = 64 := by
  have h1 := h.1 a 0 (by rw [hk]; decide)
  rw [hk] at h1
  obtain ⟨b, c1, c2, c3⟩ := h1 (by decide)
  exact ⟨b, c1, c2, c3.resolve_left (by decide)⟩
theorem T_1_0 {S : ZS} {a : Nat} (h : ZT S) (hk : zK S a = 1) : ∃ b, zP S 0 a = some b ∧ zK S b = 0 := by
  have h1 := h.1 a 0 (by rw [hk]; decide)
  rw [hk] at h1
  obtain ⟨b, c1, c2, c3⟩ := h1 (by decide)
  exact ⟨b, c1, c2⟩
theorem T_1_1 {S : ZS} {a : Nat} (h : ZT S) (hk : zK S a = 1) : ∃ b, zP S 1 a = some b ∧ zK S b = 4 := by
  have h1 := h.1 a 1 (by rw [hk]; decide)
  rw [hk] at h1
  obtain ⟨b, c1, c2, c3⟩ := h1 (by decide)
  exact ⟨b, c1, c2⟩
theorem T_1_2 {S : ZS} {a : Nat} (h : ZT S) (hk : zK S a = 1) : ∃ b, zP S 2 a = some b ∧ zK S b = 16 ∧ zN S b = 301 := by
  have h1 := h.1 a 2 (by rw [hk]; decide)
  rw [hk] at h1
  obtain ⟨b, c1, c2, c3⟩ := h1 (by decide)
  exact ⟨b, c1, c2, c3.resolve_left (by decide)⟩
theorem T_1_4 {S : ZS} {a : Nat} (h : ZT S) (hk : zK S a = 1) : ∃ b, zP S 4 a = some b ∧ zK S b = 17 ∧ zN S b = 8 := by
  have h1 := h.1 a 4 (by rw [hk]; decide)
  rw [hk] at h1
  obtain ⟨b, c1, c2, c3⟩ := h1 (by decide)
  exact ⟨b, c1, c2, c3.resolve_left (by decide)⟩
theorem T_1_7 {S : ZS} {a : Nat} (h : ZT S) (hk : zK S a = 1) : ∃ b, zP S 7 a = some b ∧ zK S b = 14 ∧ zN S b = 301 := by
  have h1 := h.1 a 7 (by rw [hk]; decide)
  rw [hk] at h1
  obtain ⟨b, c1, c2, c3⟩ := h1 (by decide)
  exact ⟨b, c1, c2, c3.resolve_left (by decide)⟩
theorem T_2_0 {S : ZS} {a : Nat} (h : ZT S) (hk : zK S a = 2) : ∃ b, zP S 0 a = some b ∧ zK S b = 8 := by
  have h1 := h.1 a 0 (by rw [hk]; decide)
  rw [hk] at h1
  obtain ⟨b, c1, c2, c3⟩ := h1 (by decide)
  exact ⟨b, c1, c2⟩
theorem T_2_1 {S : ZS} {a : Nat} (h : ZT S) (hk : zK S a = 2) : ∃ b, zP S 1 a = some b ∧ zK S b = 5 := by
  have h1 := h.1 a 1 (by rw [hk]; decide)
  rw [hk] at h1
  obtain ⟨b, c1, c2, c3⟩ := h1 (by decide)
  exact ⟨b, c1, c2⟩
theorem T_2_2 {S : ZS} {a : Nat} (h : ZT S) (hk : zK S a = 2) : ∃ b, zP S 2 a = some b ∧ zK S b = 6 ∧ rc b ≤ 2 := by
  have h1 := h.1 a 2 (by rw [hk]; decide)
  rw [hk] at h1
  obtain ⟨b, c1, c2, c3⟩ := h1 (by decide)
  have h8 := h.2.2.2.2.2.2.2.1 a 2 (by rw [hk]; decide) b c1
  rw [hk] at h8
  exact ⟨b, c1, c2, h8.2⟩
theorem T_2_3 {S : ZS} {a : Nat} (h : ZT S) (hk : zK S a = 2) : ∃ b, zP S 3 a = some b ∧ zK S b = 1 := by
  have h1 := h.1 a 3 (by rw [hk]; decide)
  rw [hk] at h1
  obtain ⟨b, c1, c2, c3⟩ := h1 (by decide)
  exact ⟨b, c1, c2⟩
theorem T_2_6 {S : ZS} {a : Nat} (h : ZT S) (hk : zK S a = 2) : ∃ b, zP S 6 a = some b ∧ zK S b = 6 ∧ rc b ≤ 1 := by
  have h1 := h.1 a 6 (by rw [hk]; decide)
  rw [hk] at h1
  obtain ⟨b, c1, c2, c3⟩ := h1 (by decide)
  have h8 := h.2.2.2.2.2.2.2.1 a 6 (by rw [hk]; decide) b c1
  rw [hk] at h8
  exact ⟨b, c1, c2, h8.2⟩
theorem T_2_7 {S : ZS} {a : Nat} (h : ZT S) (hk : zK S a = 2) : ∃ b, zP S 7 a = some b ∧ zK S b = 6 ∧ rc b ≤ 1 := by
  have h1 := h.1 a 7 (by rw [hk]; decide)
  rw [hk] at h1
  obtain ⟨b, c1, c2, c3⟩ := h1 (by decide)
  have h8 := h.2.2.2.2.2.2.2.1 a 7 (by rw [hk]; decide) b c1
  rw [hk] at h8
  exact ⟨b, c1, c2, h8.2⟩
theorem T_2_8 {S : ZS} {a : Nat} (h : ZT S) (hk : zK S a = 2) : ∃ b, zP S 8 a = some b ∧ zK S b = 14 ∧ zN S b = 7 := by
  have h1 := h.1 a 8 (by rw [hk]; decide)
  rw [hk] at h1
  obtain ⟨b, c1, c2, c3⟩ := h1 (by decide)
  exact ⟨b, c1, c2, c3.resolve_left (by decide)⟩
theorem T_2_9 {S : ZS} {a : Nat} (h : ZT S) (hk : zK S a = 2) : ∃ b, zP S 9 a = some b ∧ zK S b = 14 ∧ zN S b = 7 := by
  have h1 := h.1 a 9 (by rw [hk]; decide)
  rw [hk] at h1
  obtain ⟨b, c1, c2, c3⟩ := h1 (by decide)
  exact ⟨b, c1, c2, c3.resolve_left (by decide)⟩
theorem T_2_10 {S : ZS} {a : Nat} (h : ZT S) (hk : zK S a = 2) : ∃ b, zP S 10 a = some b ∧ zK S b = 15 ∧ zN S b = 7 := by
  have h1 := h.1 a 10 (by rw [hk]; decide)
  rw [hk] at h1
  obtain ⟨b, c1, c2, c3⟩ := h1 (by decide)
  exact ⟨b, c1, c2, c3.resolve_left (by decide)⟩
theorem T_2_11 {S : ZS} {a : Nat} (h : ZT S) (hk : zK S a = 2) : ∃ b, zP S 11 a = some b ∧ zK S b = 15 ∧ zN S b = 7 := by
  have h1 := h.1 a 11 (by rw [hk]; decide)
  rw [hk] at h1
  obtain ⟨b, c1, c2, c3⟩ := h1 (by decide)
  exact ⟨b, c1, c2, c3.resolve_left (by decide)⟩
theorem T_3_0 {S : ZS} {a : Nat} (h : ZT S) (hk : zK S a = 3) : ∃ b, zP S 0 a = some b ∧ zK S b = 9 := by
  have h1 := h.1 a 0 (by rw [hk]; decide)
  rw [hk] at h1
  obtain ⟨b, c1, c2, c3⟩ := h1 (by decide)
  exact ⟨b, c1, c2⟩
theorem T_3_1 {S : ZS} {a : Nat} (h : ZT S) (hk : zK S a = 3) : ∃ b, zP S 1 a = some b ∧ zK S b = 15 ∧ zN S b = 7 := by
  have h1 := h.1 a 1 (by rw [hk]; decide)
  rw [hk] at h1
  obtain ⟨b, c1, c2, c3⟩ := h1 (by decide)
  exact ⟨b, c1, c2, c3.resolve_left (by decide)⟩
theorem T_4_6 {S : ZS} {a : Nat} (h : ZT S) (hk : zK S a = 4) : ∃ b, zP S 6 a = some b ∧ zK S b = 6 ∧ rc b ≤ 0 := by
  have h1 := h.1 a 6 (by rw [hk]; decide)
  rw [hk] at h1
  obtain ⟨b, c1, c2, c3⟩ := h1 (by decide)
  have h8 := h.2.2.2.2.2.2.2.1 a 6 (by rw [hk]; decide) b c1
  rw [hk] at h8
  exact ⟨b, c1, c2, h8.2⟩
theorem T_5_0 {S : ZS} {a : Nat} (h : ZT S) (hk : zK S a = 5) : ∃ b, zP S 0 a = some b ∧ zK S b = 6 ∧ rc b ≤ 2 := by
  have h1 := h.1 a 0 (by rw [hk]; decide)
  rw [hk] at h1
  obtain ⟨b, c1, c2, c3⟩ := h1 (by decide)
  have h8 := h.2.2.2.2.2.2.2.1 a 0 (by rw [hk]; decide) b c1
  rw [hk] at h8
  exact ⟨b, c1, c2, h8.2⟩
theorem T_7_0 {S : ZS} {a : Nat} (h : ZT S) (hk : zK S a = 7) : ∃ b, zP S 0 a = some b ∧ zK S b = 0 := by
  have h1 := h.1 a 0 (by rw [hk]; decide)
  rw [hk] at h1
  obtain ⟨b, c1, c2, c3⟩ := h1 (by decide)
  exact ⟨b, c1, c2⟩
theorem T_7_1 {S : ZS} {a : Nat} (h : ZT S) (hk : zK S a = 7) : ∃ b, zP S 1 a = some b ∧ zK S b = 0 := by
  have h1 := h.1 a 1 (by rw [hk]; decide)
  rw [hk] at h1
  obtain ⟨b, c1, c2, c3⟩ := h1 (by decide)
  exact ⟨b, c1, c2⟩
theorem T_8_0 {S : ZS} {a : Nat} (h : ZT S) (hk : zK S a = 8) : ∃ b, zP S 0 a = some b ∧ zK S b = 7 := by
  have h1 := h.1 a 0 (by rw [hk]; decide)
  rw [hk] at h1
  obtain ⟨b, c1, c2, c3⟩ := h1 (by decide)
  exact ⟨b, c1, c2⟩
theorem T_8_1 {S : ZS} {a : Nat} (h : ZT S) (hk : zK S a = 8) : ∃ b, zP S 1 a = some b ∧ zK S b = 6 ∧ rc b ≤ 1 := by
  have h1 := h.1 a 1 (by rw [hk]; decide)
  rw [hk] at h1
  obtain ⟨b, c1, c2, c3⟩ := h1 (by decide)
  have h8 := h.2.2.2.2.2.2.2.1 a 1 (by rw [hk]; decide) b c1
  rw [hk] at h8
  exact ⟨b, c1, c2, h8.2⟩
theorem T_8_10 {S : ZS} {a : Nat} (h : ZT S) (hk : zK S a = 8) : ∃ b, zP S 10 a = some b ∧ zK S b = 14 ∧ zN S b = 64 := by
  have h1 := h.1 a 10 (by rw [hk]; decide)
  rw [hk] at h1
  obtain ⟨b, c1, c2, c3⟩ := h1 (by decide)
  exact ⟨b, c1, c2, c3.resolve_left (by decide)⟩
theorem T_9_0 {S : ZS} {a : Nat} (h : ZT S) (hk : zK S a = 9) : ∃ b, zP S 0 a = some b ∧ zK S b = 7 := by
  have h1 := h.1 a 0 (by rw [hk]; decide)
  rw [hk] at h1
  obtain ⟨b, c1, c2, c3⟩ := h1 (by decide)
  exact ⟨b, c1, c2⟩
theorem T_10_0 {S : ZS} {a : Nat} (h : ZT S) (hk : zK S a = 10) : ∃ b, zP S 0 a = some b ∧ zK S b = 6 ∧ rc b ≤ 0 := by
  have h1 := h.1 a 0 (by rw [hk]; decide)
  rw [hk] at h1
  obtain ⟨b, c1, c2, c3⟩ := h1 (by decide)
  have h8 := h.2.2.2.2.2.2.2.1 a 0 (by rw [hk]; decide) b c1
  rw [hk] at h8
  exact ⟨b, c1, c2, h8.2⟩
theorem T_10_1 {S : ZS} {a : Nat} (h : ZT S) (hk : zK S a = 10) : ∃ b, zP S 1 a = some b ∧ zK S b = 6 ∧ rc b ≤ 0 := by
  have h1 := h.1 a 1 (by rw [hk]; decide)
  rw [hk] at h1
  obtain ⟨b, c1, c2, c3⟩ := h1 (by decide)
  have h8 := h.2.2.2.2.2.2.2.1 a 1 (by rw [hk]; decide) b c1
  rw [hk] at h8
  exact ⟨b, c1, c2, h8.2⟩
theorem T_11_0 {S : ZS} {a : Nat} (h : ZT S) (hk : zK S a = 11) : ∃ b, zP S 0 a = some b ∧ zK S b = 6 ∧ rc b ≤ 2 := by
  have h1 := h.1 a 0 (by rw [hk]; decide)
  rw [hk] at h1
  obtain ⟨b, c1, c2, c3⟩ := h1 (by decide)
  have h8 := h.2.2.2.2.2.2.2.1 a 0 (by rw [hk]; decide) b c1
  rw [hk] at h8
  exact ⟨b, c1, c2, h8.2⟩
theorem T_11_1 {S : ZS} {a : Nat} (h : ZT S) (hk : zK S a = 11) : ∃ b, zP S 1 a = some b ∧ zK S b = 6 ∧ rc b ≤ 3 := by
  have h1 := h.1 a 1 (by rw [hk]; decide)
  rw [hk] at h1
  obtain ⟨b, c1, c2, c3⟩ := h1 (by decide)
  have h8 := h.2.2.2.2.2.2.2.1 a 1 (by rw [hk]; decide) b c1
  rw [hk] at h8
  exact ⟨b, c1, c2, h8.2⟩
theorem T_11_2 {S : ZS} {a : Nat} (h : ZT S) (hk : zK S a = 11) : ∃ b, zP S 2 a = some b ∧ zK S b = 7 := by
  have h1 := h.1 a 2 (by rw [hk]; decide)
  rw [hk] at h1
  obtain ⟨b, c1, c2, c3⟩ := h1 (by decide)
  exact ⟨b, c1, c2⟩
theorem T_11_3 {S : ZS} {a : Nat} (h : ZT S) (hk : zK S a = 11) : ∃ b, zP S 3 a = some b ∧ zK S b = 8 := by
  have h1 := h.1 a 3 (by rw [hk]; decide)
  rw [hk] at h1
  obtain ⟨b, c1, c2, c3⟩ := h1 (by decide)
  exact ⟨b, c1, c2⟩
theorem T_11_4 {S : ZS} {a : Nat} (h : ZT S) (hk : zK S a = 11) : ∃ b, zP S 4 a = some b ∧ zK S b = 9 := by
  have h1 := h.1 a 4 (by rw [hk]; decide)
  rw [hk] at h1
  obtain ⟨b, c1, c2, c3⟩ := h1 (by decide)
  exact ⟨b, c1, c2⟩
theorem T_11_5 {S : ZS} {a : Nat} (h : ZT S) (hk : zK S a = 11) : ∃ b, zP S 5 a = some b ∧ zK S b = 2 := by
  have h1 := h.1 a 5 (by rw [hk]; decide)
  rw [hk] at h1
  obtain ⟨b, c1, c2, c3⟩ := h1 (by decide)
  exact ⟨b, c1, c2⟩
theorem T_11_6 {S : ZS} {a : Nat} (h : ZT S) (hk : zK S a = 11) : ∃ b, zP S 6 a = some b ∧ zK S b = 3 := by
  have h1 := h.1 a 6 (by rw [hk]; decide)
  rw [hk] at h1
  obtain ⟨b, c1, c2, c3⟩ := h1 (by decide)
  exact ⟨b, c1, c2⟩
theorem T_11_7 {S : ZS} {a : Nat} (h : ZT S) (hk : zK S a = 11) : ∃ b, zP S 7 a = some b ∧ zK S b = 1 := by
  have h1 := h.1 a 7 (by rw [hk]; decide)
  rw [hk] at h1
  obtain ⟨b, c1, c2, c3⟩ := h1 (by decide)
  exact ⟨b, c1, c2⟩
theorem T_11_9 {S : ZS} {a : Nat} (h : ZT S) (hk : zK S a = 11) : ∃ b, zP S 9 a = some b ∧ zK S b = 0 := by
  have h1 := h.1 a 9 (by rw [hk]; decide)
  rw [hk] at h1
  obtain ⟨b, c1, c2, c3⟩ := h1 (by decide)
  exact ⟨b, c1, c2⟩
theorem M_2_3 {S : ZS} {a b : Nat} (h : ZT S) (hk : zK S a = 2) (hp : zP S 3 a = some b) : 4 ≤ rc b := by
  have h8 := h.2.2.2.2.2.2.2.1 a 3 (by rw [hk]; decide) b hp
  rw [hk] at h8
  exact h8.1
theorem M_11_7 {S : ZS} {a b : Nat} (h : ZT S) (hk : zK S a = 11) (hp : zP S 7 a = some b) : 4 ≤ rc b := by
  have h8 := h.2.2.2.2.2.2.2.1 a 7 (by rw [hk]; decide) b hp
  rw [hk] at h8
  exact h8.1
theorem M_11_1 {S : ZS} {a b : Nat} (h : ZT S) (hk : zK S a = 11) (hp : zP S 1 a = some b) : 3 ≤ rc b := by
  have h8 := h.2.2.2.2.2.2.2.1 a 1 (by rw [hk]; decide) b hp
  rw [hk] at h8
  exact h8.1
theorem M_11_0 {S : ZS} {a b : Nat} (h : ZT S) (hk : zK S a = 11) (hp : zP S 0 a = some b) : 2 ≤ rc b := by
  have h8 := h.2.2.2.2.2.2.2.1 a 0 (by rw [hk]; decide) b hp
  rw [hk] at h8
  exact h8.1
theorem M_2_6 {S : ZS} {a b : Nat} (h : ZT S) (hk : zK S a = 2) (hp : zP S 6 a = some b) : 1 ≤ rc b := by
  have h8 := h.2.2.2.2.2.2.2.1 a 6 (by rw [hk]; decide) b hp
  rw [hk] at h8
  exact h8.1
theorem M_2_7 {S : ZS} {a b : Nat} (h : ZT S) (hk : zK S a = 2) (hp : zP S 7 a = some b) : 1 ≤ rc b := by
  have h8 := h.2.2.2.2.2.2.2.1 a 7 (by rw [hk]; decide) b hp
  rw [hk] at h8
  exact h8.1
theorem M_8_1 {S : ZS} {a b : Nat} (h : ZT S) (hk : zK S a = 8) (hp : zP S 1 a = some b) : 1 ≤ rc b := by
  have h8 := h.2.2.2.2.2.2.2.1 a 1 (by rw [hk]; decide) b hp
  rw [hk] at h8
  exact h8.1
theorem J_0_1 {S : ZS} {a : Nat} (h : ZT S) (hk : zK S a = 0) : (0 : Int) ≤ (zI S 1 a).toInt ∧ (zI S 1 a).toInt ≤ (63 : Int) := by
  have h1 := h.2.2.1 a 1 (by rw [hk]; decide)
  rw [hk] at h1
  exact h1
theorem J_0_2 {S : ZS} {a : Nat} (h : ZT S) (hk : zK S a = 0) : (0 : Int) ≤ (zI S 2 a).toInt ∧ (zI S 2 a).toInt ≤ (63 : Int) := by
  have h1 := h.2.2.1 a 2 (by rw [hk]; decide)
  rw [hk] at h1
  exact h1
theorem J_0_3 {S : ZS} {a : Nat} (h : ZT S) (hk : zK S a = 0) : (0 : Int) ≤ (zI S 3 a).toInt ∧ (zI S 3 a).toInt ≤ (1 : Int) := by
  have h1 := h.2.2.1 a 3 (by rw [hk]; decide)
  rw [hk] at h1
  exact h1
theorem J_0_5 {S : ZS} {a : Nat} (h : ZT S) (hk : zK S a = 0) : (-1 : Int) ≤ (zI S 5 a).toInt ∧ (zI S 5 a).toInt ≤ (63 : Int) := by
  have h1 := h.2.2.1 a 5 (by rw [hk]; decide)
  rw [hk] at h1
  exact h1
theorem J_4_4 {S : ZS} {a : Nat} (h : ZT S) (hk : zK S a = 4) : (0 : Int) ≤ (zI S 4 a).toInt ∧ (zI S 4 a).toInt ≤ (4 : Int) := by
  have h1 := h.2.2.1 a 4 (by rw [hk]; decide)
  rw [hk] at h1
  exact h1
theorem J_1_3 {S : ZS} {a : Nat} (h : ZT S) (hk : zK S a = 1) : (0 : Int) ≤ (zI S 3 a).toInt ∧ (zI S 3 a).toInt ≤ (300 : Int) := by
  have h1 := h.2.2.1 a 3 (by rw [hk]; decide)
  rw [hk] at h1
  exact h1
theorem J_1_5 {S : ZS} {a : Nat} (h : ZT S) (hk : zK S a = 1) : (0 : Int) ≤ (zI S 5 a).toInt ∧ (zI S 5 a).toInt ≤ (8 : Int) := by
  have h1 := h.2.2.1 a 5 (by rw [hk]; decide)
  rw [hk] at h1
  exact h1
theorem J_2_4 {S : ZS} {a : Nat} (h : ZT S) (hk : zK S a = 2) : (0 : Int) ≤ (zI S 4 a).toInt ∧ (zI S 4 a).toInt ≤ (90100 : Int) := by
  have h1 := h.2.2.1 a 4 (by rw [hk]; decide)
  rw [hk] at h1
  exact h1
theorem J_5_1 {S : ZS} {a : Nat} (h : ZT S) (hk : zK S a = 5) : (0 : Int) ≤ (zI S 1 a).toInt ∧ (zI S 1 a).toInt ≤ (90100 : Int) := by
  have h1 := h.2.2.1 a 1 (by rw [hk]; decide)
  rw [hk] at h1
  exact h1
theorem J_8_11 {S : ZS} {a : Nat} (h : ZT S) (hk : zK S a = 8) : (0 : Int) ≤ (zI S 11 a).toInt ∧ (zI S 11 a).toInt ≤ (64 : Int) := by
  have h1 := h.2.2.1 a 11 (by rw [hk]; decide)
  rw [hk] at h1
  exact h1
theorem J_8_6 {S : ZS} {a : Nat} (h : ZT S) (hk : zK S a = 8) : (-1 : Int) ≤ (zI S 6 a).toInt ∧ (zI S 6 a).toInt ≤ (63 : Int) := by
  have h1 := h.2.2.1 a 6 (by rw [hk]; decide)
  rw [hk] at h1
  exact h1
theorem J_8_2 {S : ZS} {a : Nat} (h : ZT S) (hk : zK S a = 8) : (-2 : Int) ≤ (zI S 2 a).toInt ∧ (zI S 2 a).toInt ≤ (2 : Int) := by
  have h1 := h.2.2.1 a 2 (by rw [hk]; decide)
  rw [hk] at h1
  exact h1
theorem J_8_7 {S : ZS} {a : Nat} (h : ZT S) (hk : zK S a = 8) : (0 : Int) ≤ (zI S 7 a).toInt ∧ (zI S 7 a).toInt ≤ (30 : Int) := by
  have h1 := h.2.2.1 a 7 (by rw [hk]; decide)
  rw [hk] at h1
  exact h1
theorem J_8_8 {S : ZS} {a : Nat} (h : ZT S) (hk : zK S a = 8) : (-1 : Int) ≤ (zI S 8 a).toInt ∧ (zI S 8 a).toInt ≤ (1 : Int) := by
  have h1 := h.2.2.1 a 8 (by rw [hk]; decide)
  rw [hk] at h1
  exact h1
theorem J_8_9 {S : ZS} {a : Nat} (h : ZT S) (hk : zK S a = 8) : (0 : Int) ≤ (zI S 9 a).toInt ∧ (zI S 9 a).toInt ≤ (65535 : Int) := by
  have h1 := h.2.2.1 a 9 (by rw [hk]; decide)
  rw [hk] at h1
  exact h1
theorem J_11_8 {S : ZS} {a : Nat} (h : ZT S) (hk : zK S a = 11) : (0 : Int) ≤ (zI S 8 a).toInt ∧ (zI S 8 a).toInt ≤ (300 : Int) := by
  have h1 := h.2.2.1 a 8 (by rw [hk]; decide)
  rw [hk] at h1
  exact h1
theorem J_6_1 {S : ZS} {a : Nat} (h : ZT S) (hk : zK S a = 6) : (0 : Int) ≤ (zI S 1 a).toInt ∧ (zI S 1 a).toInt ≤ (90000 : Int) := by
  obtain ⟨b, -, -, c1, -, c2, -⟩ := h.2.1 a hk
  refine ⟨c1, ?_⟩
  unfold rL at c2
  split at c2
  · omega
  · split at c2 <;> omega
theorem J_6_1c {S : ZS} {a : Nat} (h : ZT S) (hk : zK S a = 6) : (0 : Int) ≤ (zI S 1 a).toInt ∧ (zI S 1 a).toInt ≤ (rL a : Int) := by
  obtain ⟨b, -, -, c1, -, c2, -⟩ := h.2.1 a hk
  exact ⟨c1, c2⟩
theorem rL_1 {a : Nat} (h : rc a ≤ 2) : rL a ≤ 2000 := by
  unfold rL
  rw [if_neg (by omega)]
  split <;> omega
theorem rL_0 {a : Nat} (h : rc a ≤ 0) : rL a = 200 := by
  unfold rL
  rw [if_neg (by omega), if_neg (by omega)]
theorem rL_ge (a : Nat) : 200 ≤ rL a := by
  unfold rL
  split
  · omega
  · split <;> omega
theorem J61_2 {S : ZS} {a : Nat} (h : ZT S) (hk : zK S a = 6) (hc : rc a ≤ 2) : (0 : Int) ≤ (zI S 1 a).toInt ∧ (zI S 1 a).toInt ≤ (2000 : Int) := by
  have h1 := J_6_1c h hk
  have h2 := rL_1 hc
  omega
theorem J61_1 {S : ZS} {a : Nat} (h : ZT S) (hk : zK S a = 6) (hc : rc a ≤ 1) : (0 : Int) ≤ (zI S 1 a).toInt ∧ (zI S 1 a).toInt ≤ (2000 : Int) := J61_2 h hk (by omega)
theorem J61_0 {S : ZS} {a : Nat} (h : ZT S) (hk : zK S a = 6) (hc : rc a ≤ 0) : (0 : Int) ≤ (zI S 1 a).toInt ∧ (zI S 1 a).toInt ≤ (200 : Int) := by
  have h1 := J_6_1c h hk
  have h2 := rL_0 hc
  omega
/-- the reader's small arrays stay as they were -/
noncomputable def A6 (S S' : ZS) : Prop := ∀ a, zK S a = 14 → zN S a = 7 → zK S' a = 14 ∧ zN S' a = 7 ∧ zA S' a = zA S a
/-- and so do the rows that are read: their lengths and their characters -/
noncomputable def XR (S S' : ZS) : Prop := ∀ r, zK S r = 6 → rc r = 2 → zK S' r = 6 ∧ zI S' 1 r = zI S 1 r ∧ zP S' 0 r = zP S 0 r ∧ ∀ b, zP S 0 r = some b → zN S' b = zN S b ∧ zA S' b = zA S b
noncomputable def A7 (S S' : ZS) : Prop := A6 S S' ∧ XR S S'
theorem a6_0 (S : ZS) : A6 S S := fun _ h1 h2 => ⟨h1, h2, rfl⟩
theorem a6_t {S S1 S2 : ZS} (h : A6 S S1) (h2 : A6 S1 S2) : A6 S S2 := fun a h3 h4 => by
  obtain ⟨c1, c2, c3⟩ := h a h3 h4
  obtain ⟨d1, d2, d3⟩ := h2 a c1 c2
  exact ⟨d1, d2, d3.trans c3⟩
theorem xr_0 (S : ZS) : XR S S := fun _ h1 _ => ⟨h1, rfl, rfl, fun _ _ => ⟨rfl, rfl⟩⟩
theorem xr_t {S S1 S2 : ZS} (h : XR S S1) (h2 : XR S1 S2) : XR S S2 := fun r h3 h4 => by
  obtain ⟨c1, c2, c3, c4⟩ := h r h3 h4
  obtain ⟨d1, d2, d3, d4⟩ := h2 r c1 h4
  refine ⟨d1, d2.trans c2, d3.trans c3, fun b hb => ?_⟩
  have e1 := c4 b hb
  have e2 := d4 b (c3.trans hb)
  exact ⟨e2.1.trans e1.1, e2.2.trans e1.2⟩
theorem xr_I {S : ZS} {j a k : Nat} {v : Int32} (hk : zK S a = k) (hd : (k, j) ≠ (6, 1)) : XR S (zsI S j a v) := fun r h1 _ => by
  refine ⟨h1, ?_, rfl, fun _ _ => ⟨rfl, rfl⟩⟩
  show va_up (zI S) j (va_up (zI S j) a v) 1 r = _
  by_cases e1 : 1 = j
  · subst e1
    rw [va_up_self, va_up_ne _ _ (fun e => hd (by rw [e, hk] at h1; rw [h1]))]
  · rw [va_up_ne _ _ e1]
theorem xr_I6 {S : ZS} {j a : Nat} {v : Int32} (hc : rc a ≠ 2) : XR S (zsI S j a v) := fun r h1 h2 => by
  refine ⟨h1, ?_, rfl, fun _ _ => ⟨rfl, rfl⟩⟩
  show va_up (zI S) j (va_up (zI S j) a v) 1 r = _
  by_cases e1 : 1 = j
  · subst e1
    rw [va_up_self, va_up_ne _ _ (fun e => hc (by rw [← e]; exact h2))]
  · rw [va_up_ne _ _ e1]
theorem xr_P {S : ZS} {j a k : Nat} {v : Option Nat} (hk : zK S a = k) (hd : (k, j) ≠ (6, 0)) : XR S (zsP S j a v) := fun r h1 _ => by
  refine ⟨h1, rfl, ?_, fun _ _ => ⟨rfl, rfl⟩⟩
  show va_up (zP S) j (va_up (zP S j) a v) 0 r = _
  by_cases e1 : 0 = j
  · subst e1
    rw [va_up_self, va_up_ne _ _ (fun e => hd (by rw [e, hk] at h1; rw [h1]))]
  · rw [va_up_ne _ _ e1]
theorem xr_A {S : ZS} {a i : Nat} {v : Int32} (hT : ZT S) (hk : zK S a = 14) : XR S (zsA S a i v) := fun r h1 _ => by
  refine ⟨h1, rfl, rfl, fun b hb => ⟨rfl, va_up_ne _ _ (fun e => ?_)⟩⟩
  obtain ⟨c, c1, c2, -⟩ := hT.2.1 r h1
  rw [hb] at c1
  cases c1
  rw [e] at c2
  rcases c2 with c2 | c2
  · have := hT.2.2.2.2.2.1
    rw [← c2, hk] at this
    exact absurd this (by decide)
  · rw [hk] at c2
    exact absurd c2 (by decide)
theorem xr_C {S : ZS} {b a sp dp n : Nat} (hT : ZT S) (hk : zK S a = 14) : XR S (zsC S b a sp dp n) := fun r h1 _ => by
  refine ⟨h1, rfl, rfl, fun b hb => ⟨rfl, va_up_ne _ _ (fun e => ?_)⟩⟩
  obtain ⟨c, c1, c2, -⟩ := hT.2.1 r h1
  rw [hb] at c1
  cases c1
  rw [e] at c2
  rcases c2 with c2 | c2
  · have := hT.2.2.2.2.2.1
    rw [← c2, hk] at this
    exact absurd this (by decide)
  · rw [hk] at c2
    exact absurd c2 (by decide)
/-- a row's own characters -/
theorem xr_A13 {S : ZS} {x a i : Nat} {v : Int32} (hT : ZT S) (hk : zK S x = 6) (hp : zP S 0 x = some a) (h0 : a ≠ 0) (hc : rc x ≠ 2) : XR S (zsA S a i v) := fun r h1 h2 => by
  refine ⟨h1, rfl, rfl, fun b hb => ⟨rfl, va_up_ne _ _ (fun e => ?_)⟩⟩
  rw [e] at hb
  rcases hT.2.2.2.2.2.2.2.2.2.2.2 x r a hk h1 hp hb with h | h
  · exact h0 h
  · exact hc (by rw [h]; exact h2)
theorem a7_0 (S : ZS) : A7 S S := ⟨a6_0 S, xr_0 S⟩
theorem a7_t {S S1 S2 : ZS} (h : A7 S S1) (h2 : A7 S1 S2) : A7 S S2 := ⟨a6_t h.1 h2.1, xr_t h.2 h2.2⟩
theorem a7_I {SZ S S' : ZS} {j a k : Nat} {v : Int32} (h : A7 SZ S) (e : S' = zsI S j a v) (hk : zK S a = k) (hd : (k, j) ≠ (6, 1)) : A7 SZ S' := by
  subst e; exact ⟨h.1, xr_t h.2 (xr_I hk hd)⟩
theorem a7_I6 {SZ S S' : ZS} {j a : Nat} {v : Int32} (h : A7 SZ S) (e : S' = zsI S j a v) (hc : rc a ≠ 2) : A7 SZ S' := by
  subst e; exact ⟨h.1, xr_t h.2 (xr_I6 hc)⟩
theorem a7_P {SZ S S' : ZS} {j a k : Nat} {v : Option Nat} (h : A7 SZ S) (e : S' = zsP S j a v) (hk : zK S a = k) (hd : (k, j) ≠ (6, 0)) : A7 SZ S' := by
  subst e; exact ⟨h.1, xr_t h.2 (xr_P hk hd)⟩
theorem a7_A {SZ S S' : ZS} {a i n : Nat} {v : Int32} (h : A7 SZ S) (e : S' = zsA S a i v) (hT : ZT S) (hk : zK S a = 14) (hn : zN S a = n) (h7 : n ≠ 7) : A7 SZ S' := by
  refine a7_t h ⟨fun b h1 h2 => ⟨by rw [e]; exact h1, by rw [e]; exact h2, ?_⟩, by rw [e]; exact xr_A hT hk⟩
  rw [e]
  exact va_up_ne _ _ (fun e2 => h7 (by rw [← hn, ← e2]; exact h2))
theorem a7_C {SZ S S' : ZS} {b a sp dp k n : Nat} (h : A7 SZ S) (e : S' = zsC S b a sp dp k) (hT : ZT S) (hk : zK S a = 14) (hn : zN S a = n) (h7 : n ≠ 7) : A7 SZ S' := by
  refine a7_t h ⟨fun b h1 h2 => ⟨by rw [e]; exact h1, by rw [e]; exact h2, ?_⟩, by rw [e]; exact xr_C hT hk⟩
  rw [e]
  exact va_up_ne _ _ (fun e2 => h7 (by rw [← hn, ← e2]; exact h2))
end
section
theorem sq_all {P : Int32 → Prop} (h : ∀ n, n < 64 → P (Int32.ofNat n)) {x : Int32} (hx : 0 ≤ x.toInt ∧ x.toInt ≤ 63) : P x := by
  have e : x = Int32.ofNat x.toInt.toNat := by
    apply Int32.toInt_inj.mp
    rw [Int32.toInt_ofNat_of_lt (by omega)]
    omega
  rw [e]
  exact h _ (by omega)
theorem b_and7 {x v : Int32} (e : v = x &&& 7) (hx : 0 ≤ x.toInt ∧ x.toInt ≤ 63) : v.toInt = x.toInt % 8 := by
  rw [e]; exact sq_all (P := fun x => (x &&& 7).toInt = x.toInt % 8) (by decide +kernel) hx
theorem b_and56 {x v : Int32} (e : v = x &&& 56) (hx : 0 ≤ x.toInt ∧ x.toInt ≤ 63) : v.toInt = x.toInt / 8 * 8 := by
  rw [e]; exact sq_all (P := fun x => (x &&& 56).toInt = x.toInt / 8 * 8) (by decide +kernel) hx
theorem b_or7 {x v : Int32} (e : v = x ||| 7) (hx : 0 ≤ x.toInt ∧ x.toInt ≤ 63) : v.toInt = x.toInt / 8 * 8 + 7 := by
  rw [e]; exact sq_all (P := fun x => (x ||| 7).toInt = x.toInt / 8 * 8 + 7) (by decide +kernel) hx
theorem b_sh3 {x v : Int32} (e : v = x >>> ((3 : Int32) &&& 31)) (hx : 0 ≤ x.toInt ∧ x.toInt ≤ 63) : v.toInt = x.toInt / 8 := by
  rw [e]; exact sq_all (P := fun x => (x >>> ((3 : Int32) &&& 31)).toInt = x.toInt / 8) (by decide +kernel) hx
theorem zFR_b {v : Int32} {i : Nat} (e : v = zFR.getD i 0) : 0 ≤ v.toInt ∧ v.toInt ≤ 6 := by
  rw [e]
  by_cases h : i < 8
  · have key : ∀ i, i < 8 → 0 ≤ (zFR.getD i 0).toInt ∧ (zFR.getD i 0).toInt ≤ 6 := by decide
    exact key i h
  · have h2 : zFR[i]? = none := List.getElem?_eq_none (by show 8 ≤ i; omega)
    rw [List.getD_eq_getElem?_getD, h2]; decide
noncomputable def wayk (a s n : Int) : Prop := ∀ k : Int, 1 ≤ k → k < n → 0 ≤ a + k * s ∧ a + k * s ≤ 63
noncomputable def way3 (a dx u n : Int) : Prop := (u = 0 ∨ u = n ∨ u = -n) ∧ 0 ≤ n ∧ 0 ≤ a % 8 + n * dx ∧ a % 8 + n * dx ≤ 7 ∧ 0 ≤ a / 8 + u ∧ a / 8 + u ≤ 7
theorem way3_mk {a f u n dx : Int} (h1 : 0 ≤ a % 8 + f ∧ a % 8 + f ≤ 7 ∧ 0 ≤ a / 8 + u ∧ a / 8 + u ≤ 7) (h2 : f ≤ n ∧ -f ≤ n ∧ u ≤ n ∧ -u ≤ n ∧ (n = f ∨ n = -f ∨ n = u ∨ n = -u)) (h3 : f = 0 ∨ u = 0 ∨ f = u ∨ f = -u) (h4 : (0 < f → dx = 1) ∧ (f < 0 → dx = -1) ∧ (f = 0 → dx = 0)) : way3 a dx u n := by
  have e : n * dx = f := by
    rcases Int.lt_trichotomy f 0 with h | h | h
    · rw [h4.2.1 h]; omega
    · rw [h4.2.2 h]; omega
    · rw [h4.1 h]; omega
  unfold way3
  rw [e]
  omega
theorem way3_x {a dx u n s : Int} (hd : -1 ≤ dx ∧ dx ≤ 1) (ha : 0 ≤ a ∧ a ≤ 63) (h : way3 a dx u n) (hs : (u = 0 ∧ s = 0) ∨ (u < 0 ∧ s = -8) ∨ (0 < u ∧ s = 8)) : wayk a (dx + s) n := by
  intro k k1 k2
  obtain ⟨h1, h2, h3, h4, h5, h6⟩ := h
  have hx : dx = -1 ∨ dx = 0 ∨ dx = 1 := by omega
  rcases hs with ⟨hu, e⟩ | ⟨hu, e⟩ | ⟨hu, e⟩ <;> rcases hx with e2 | e2 | e2 <;> subst e <;> subst e2 <;> omega
theorem way3_0 {a dx u n : Int} (hd : -1 ≤ dx ∧ dx ≤ 1) (ha : 0 ≤ a ∧ a ≤ 63) (h : way3 a dx u n) (hu : u = 0) : wayk a (dx + (0 : Int32).toInt) n := way3_x hd ha h (Or.inl ⟨hu, rfl⟩)
theorem way3_m {a dx u n : Int} (hd : -1 ≤ dx ∧ dx ≤ 1) (ha : 0 ≤ a ∧ a ≤ 63) (h : way3 a dx u n) (hu : u < 0) : wayk a (dx + (-8 : Int32).toInt) n := way3_x hd ha h (Or.inr (Or.inl ⟨hu, rfl⟩))
theorem way3_p {a dx u n : Int} (hd : -1 ≤ dx ∧ dx ≤ 1) (ha : 0 ≤ a ∧ a ≤ 63) (h : way3 a dx u n) (hu : 0 < u) : wayk a (dx + (8 : Int32).toInt) n := way3_x hd ha h (Or.inr (Or.inr ⟨hu, rfl⟩))
theorem t_f_X0_put_0 {SZ S : ZS} {x0 : Nat} {x1 : Int32} {x2 : Int32} (hT : ZT S) (hR : A7 SZ S) (r_x0 : zK S x0 = 0) (r_x1 : (0 : Int) ≤ x1.toInt ∧ x1.toInt ≤ (63 : Int)) : Ok (f_X0_put_0 x0 x1 x2 S) (fun o => ZT o.2 ∧ A7 SZ o.2 ∧ True) := by
  unfold f_X0_put_0
  refine ok_chk r_x0 ?_
  obtain ⟨b1, p_b1, k_b1, n_b1⟩ := T_0_0 hT r_x0
  refine ok_calR p_b1 ?_
  refine ok_chk k_b1 ?_
  refine ok_chk (ti_inN (v := x1) (n := 64) n_b1 (by omega) (by omega)) ?_
  refine ok_bnd (fun S2 e1 => ?_)
  have T_S2 : ZT S2 := e1.symm ▸ zt_A hT k_b1
  have kE_S2 : zK S2 = zK S := by rw [e1]; rfl
  have nE_S2 : zN S2 = zN S := by rw [e1]; rfl
  have R_S2 : A7 SZ S2 := a7_A hR e1 hT k_b1 n_b1 (by decide)
  refine ok_if (fun c2 => ?_) (fun c2 => ?_)
  ·
    replace c2 := ti_eqP (a := x2) (b := (6 : Int32)) c2 rfl (show (6 : Int32).toInt = 6 from rfl)
    refine ok_chk ((congrFun kE_S2 x0).trans r_x0) ?_
    refine ok_bnd (fun S4 e3 => ?_)
    have T_S4 : ZT S4 := e3.symm ▸ zt_I T_S2 ((congrFun kE_S2 x0).trans r_x0) (by decide) (show (0 : Int) ≤ x1.toInt ∧ x1.toInt ≤ (63 : Int) from (by omega))
    have kE_S4 : zK S4 = zK S2 := by rw [e3]; rfl
    have nE_S4 : zN S4 = zN S2 := by rw [e3]; rfl
    have R_S4 : A7 SZ S4 := a7_I R_S2 e3 ((congrFun kE_S2 x0).trans r_x0) (by decide)
    unfold f_X0_put_32
    exact ok_ret ⟨T_S4, R_S4, trivial⟩
  ·
    replace c2 := ti_eqN (a := x2) (b := (6 : Int32)) c2 rfl (show (6 : Int32).toInt = 6 from rfl)
    refine ok_if (fun c4 => ?_) (fun c4 => ?_)
    ·
      replace c4 := ti_eqP (a := x2) (b := (14 : Int32)) c4 rfl (show (14 : Int32).toInt = 14 from rfl)
      refine ok_chk ((congrFun kE_S2 x0).trans r_x0) ?_
      refine ok_bnd (fun S3 e5 => ?_)
      have T_S3 : ZT S3 := e5.symm ▸ zt_I T_S2 ((congrFun kE_S2 x0).trans r_x0) (by decide) (show (0 : Int) ≤ x1.toInt ∧ x1.toInt ≤ (63 : Int) from (by omega))
      have kE_S3 : zK S3 = zK S2 := by rw [e5]; rfl
      have nE_S3 : zN S3 = zN S2 := by rw [e5]; rfl
      have R_S3 : A7 SZ S3 := a7_I R_S2 e5 ((congrFun kE_S2 x0).trans r_x0) (by decide)
      unfold f_X0_put_32
      exact ok_ret ⟨T_S3, R_S3, trivial⟩
    ·
      replace c4 := ti_eqN (a := x2) (b := (14 : Int32)) c4 rfl (show (14 : Int32).toInt = 14 from rfl)
      unfold f_X0_put_32
      exact ok_ret ⟨T_S2, R_S2, trivial⟩
theorem t_f_X0_put {SZ S : ZS} {x0 : Nat} {x1 : Int32} {x2 : Int32} (hT : ZT S) (hR : A7 SZ S) (r_x0 : zK S x0 = 0) (r_x1 : (0 : Int) ≤ x1.toInt ∧ x1.toInt ≤ (63 : Int)) : Ok (f_X0_put x0 x1 x2 S) (fun o => ZT o.2 ∧ A7 SZ o.2 ∧ True) := t_f_X0_put_0 hT hR r_x0 r_x1
theorem t_f_X0_wipe_2s {SZ S : ZS} {self2 : Nat → Int32 → ZS → Option (Int32 × ZS)} {N2 : Nat} (hself2 : ∀ (x0 : Nat) (x1 : Int32) (S : ZS), ZT S → A7 SZ S → (zK S x0 = 0) → ((0 : Int) ≤ x1.toInt ∧ x1.toInt ≤ (64 : Int)) → (65 - x1.toInt) < (N2 : Int) → Ok (self2 x0 x1 S) (fun o => ZT o.2 ∧ A7 SZ o.2 ∧ True)) {x0 : Nat} {x1 : Int32} (hT : ZT S) (hR : A7 SZ S) (r_x0 : zK S x0 = 0) (r_x1 : (0 : Int) ≤ x1.toInt ∧ x1.toInt ≤ (64 : Int)) (m2 : (65 - x1.toInt) ≤ (N2 : Int)) : Ok (f_X0_wipe_2s self2 x0 x1 S) (fun o => ZT o.2 ∧ A7 SZ o.2 ∧ True) := by
  unfold f_X0_wipe_2s
  refine ok_if (fun c6 => ?_) (fun c6 => ?_)
  ·
    replace c6 := ti_leP (a := (64 : Int32)) (b := x1) c6 (show (64 : Int32).toInt = 64 from rfl) rfl
    refine ok_chk r_x0 ?_
    refine ok_bnd (fun S1 e7 => ?_)
    have T_S1 : ZT S1 := e7.symm ▸ zt_I hT r_x0 (by decide) (show (0 : Int) ≤ (0 : Int32).toInt ∧ (0 : Int32).toInt ≤ (1 : Int) from (by decide))
    have kE_S1 : zK S1 = zK S := by rw [e7]; rfl
    have nE_S1 : zN S1 = zN S := by rw [e7]; rfl
    have R_S1 : A7 SZ S1 := a7_I hR e7 r_x0 (by decide)
    refine ok_chk ((congrFun kE_S1 x0).trans r_x0) ?_
    refine ok_bnd (fun S2 e8 => ?_)
    have T_S2 : ZT S2 := e8.symm ▸ zt_W T_S1 ((congrFun kE_S1 x0).trans r_x0) (by decide) rfl
    have kE_S2 : zK S2 = zK S1 := by rw [e8]; rfl
    have nE_S2 : zN S2 = zN S1 := by rw [e8]; rfl
    have R_S2 : A7 SZ S2 := a7_I R_S1 e8 ((congrFun kE_S1 x0).trans r_x0) (by decide)
    refine ok_chk ((congrFun kE_S2 x0).trans ((congrFun kE_S1 x0).trans r_x0)) ?_
    refine ok_bnd (fun S3 e9 => ?_)
    have T_S3 : ZT S3 := e9.symm ▸ zt_I T_S2 ((congrFun kE_S2 x0).trans ((congrFun kE_S1 x0).trans r_x0)) (by decide) (show (-1 : Int) ≤ (-1 : Int32).toInt ∧ (-1 : Int32).toInt ≤ (63 : Int) from (by decide))
    have kE_S3 : zK S3 = zK S2 := by rw [e9]; rfl
    have nE_S3 : zN S3 = zN S2 := by rw [e9]; rfl
    have R_S3 : A7 SZ S3 := a7_I R_S2 e9 ((congrFun kE_S2 x0).trans ((congrFun kE_S1 x0).trans r_x0)) (by decide)
    refine ok_chk ((congrFun kE_S3 x0).trans ((congrFun kE_S2 x0).trans ((congrFun kE_S1 x0).trans r_x0))) ?_
    refine ok_bnd (fun S4 e10 => ?_)
    have T_S4 : ZT S4 := e10.symm ▸ zt_W T_S3 ((congrFun kE_S3 x0).trans ((congrFun kE_S2 x0).trans ((congrFun kE_S1 x0).trans r_x0))) (by decide) rfl
    have kE_S4 : zK S4 = zK S3 := by rw [e10]; rfl
    have nE_S4 : zN S4 = zN S3 := by rw [e10]; rfl
    have R_S4 : A7 SZ S4 := a7_I R_S3 e10 ((congrFun kE_S3 x0).trans ((congrFun kE_S2 x0).trans ((congrFun kE_S1 x0).trans r_x0))) (by decide)
    exact ok_ret ⟨T_S4, R_S4, trivial⟩
  ·
    replace c6 := ti_leN (a := (64 : Int32)) (b := x1) c6 (show (64 : Int32).toInt = 64 from rfl) rfl
    refine ok_chk r_x0 ?_
    obtain ⟨b5, p_b5, k_b5, n_b5⟩ := T_0_0 hT r_x0
    refine ok_calR p_b5 ?_
    refine ok_chk k_b5 ?_
    refine ok_chk (ti_inN (v := x1) (n := 64) n_b5 (by omega) (by omega)) ?_
    refine ok_bnd (fun S6 e11 => ?_)
    have T_S6 : ZT S6 := e11.symm ▸ zt_A hT k_b5
    have kE_S6 : zK S6 = zK S := by rw [e11]; rfl
    have nE_S6 : zN S6 = zN S := by rw [e11]; rfl
    have R_S6 : A7 SZ S6 := a7_A hR e11 hT k_b5 n_b5 (by decide)
    refine ok_bnd (fun v7 e12 => ?_)
    have t_v7 : v7.toInt = x1.toInt + 1 := ti_add e12 rfl (show (1 : Int32).toInt = 1 from rfl) (by omega) (by omega)
    exact hself2 x0 v7 S6 T_S6 R_S6 ((congrFun kE_S6 x0).trans r_x0) (by omega) (by omega)
theorem t_f_X0_wipe_2 {SZ : ZS} : ∀ (n : Nat) (x0 : Nat) (x1 : Int32) (S : ZS), ZT S → A7 SZ S → (zK S x0 = 0) → ((0 : Int) ≤ x1.toInt ∧ x1.toInt ≤ (64 : Int)) → (65 - x1.toInt) < (n : Int) → Ok (f_X0_wipe_2  n x0 x1 S) (fun o => ZT o.2 ∧ A7 SZ o.2 ∧ True) := by
  intro n
  induction n with
  | zero => intro x0 x1 S hT hR g0 g1  hm; exfalso; omega
  | succ n ih =>
    intro x0 x1 S hT hR g0 g1  hm
    exact t_f_X0_wipe_2s (N2 := n)  ih hT hR g0 g1  (by omega)
theorem t_f_X0_wipe_0 {SZ S : ZS} {x0 : Nat} (hT : ZT S) (hR : A7 SZ S) (r_x0 : zK S x0 = 0) : Ok (f_X0_wipe_0 x0 S) (fun o => ZT o.2 ∧ A7 SZ o.2 ∧ True) := by
  unfold f_X0_wipe_0
  exact t_f_X0_wipe_2   mFuel x0 (0 : Int32) S hT hR r_x0 (by decide) (by show _ < ((200000 : Nat) : Int); have z0 : (0 : Int32).toInt = 0 := rfl; omega)
theorem t_f_X0_wipe {SZ S : ZS} {x0 : Nat} (hT : ZT S) (hR : A7 SZ S) (r_x0 : zK S x0 = 0) : Ok (f_X0_wipe x0 S) (fun o => ZT o.2 ∧ A7 SZ o.2 ∧ True) := t_f_X0_wipe_0 hT hR r_x0
theorem t_f_X0_setUp_6s {SZ S : ZS} {self6 : Nat → Int32 → ZS → Option (Int32 × ZS)} {N6 : Nat} (hself6 : ∀ (x0 : Nat) (x1 : Int32) (S : ZS), ZT S → A7 SZ S → (zK S x0 = 0) → ((0 : Int) ≤ x1.toInt ∧ x1.toInt ≤ (8 : Int)) → (9 - x1.toInt) < (N6 : Int) → Ok (self6 x0 x1 S) (fun o => ZT o.2 ∧ A7 SZ o.2 ∧ True)) {x0 : Nat} {x1 : Int32} (hT : ZT S) (hR : A7 SZ S) (r_x0 : zK S x0 = 0) (r_x1 : (0 : Int) ≤ x1.toInt ∧ x1.toInt ≤ (8 : Int)) (m6 : (9 - x1.toInt) ≤ (N6 : Int)) : Ok (f_X0_setUp_6s self6 x0 x1 S) (fun o => ZT o.2 ∧ A7 SZ o.2 ∧ True) := by
  unfold f_X0_setUp_6s
  refine ok_if (fun c13 => ?_) (fun c13 => ?_)
  ·
    replace c13 := ti_leP (a := (8 : Int32)) (b := x1) c13 (show (8 : Int32).toInt = 8 from rfl) rfl
    refine ok_chk r_x0 ?_
    refine ok_bnd (fun S1 e14 => ?_)
    have T_S1 : ZT S1 := e14.symm ▸ zt_W hT r_x0 (by decide) rfl
    have kE_S1 : zK S1 = zK S := by rw [e14]; rfl
    have nE_S1 : zN S1 = zN S := by rw [e14]; rfl
    have R_S1 : A7 SZ S1 := a7_I hR e14 r_x0 (by decide)
    exact ok_ret ⟨T_S1, R_S1, trivial⟩
  ·
    replace c13 := ti_leN (a := (8 : Int32)) (b := x1) c13 (show (8 : Int32).toInt = 8 from rfl) rfl
    refine ok_chk (ti_in (by omega) (by omega)) ?_
    refine ok_bnd (fun v2 e15 => ?_)
    have t_v2 := zFR_b e15
    refine ok_chk r_x0 ?_
    obtain ⟨⟨r3, S3⟩, h_r3, T_S3, A_S3, -⟩ := t_f_X0_put (x0 := x0) (x1 := x1) (x2 := v2) (SZ := S) hT (a7_0 S) r_x0 (by omega)
    replace T_S3 : ZT S3 := T_S3
    replace A_S3 : A7 S S3 := A_S3
    refine ok_calR h_r3 ?_
    have q_S3 := fq_X0_put h_r3
    have kE_S3 : zK S3 = zK S := q_S3.2.2.1
    have nE_S3 : zN S3 = zN S := q_S3.2.2.2.1
    have R_S3 : A7 SZ S3 := a7_t hR A_S3
    refine ok_bnd (fun v4 e16 => ?_)
    have t_v4 : v4.toInt = x1.toInt + 8 := ti_add e16 rfl (show (8 : Int32).toInt = 8 from rfl) (by omega) (by omega)
    refine ok_chk ((congrFun kE_S3 x0).trans r_x0) ?_
    obtain ⟨⟨r5, S5⟩, h_r5, T_S5, A_S5, -⟩ := t_f_X0_put (x0 := x0) (x1 := v4) (x2 := (1 : Int32)) (SZ := S3) T_S3 (a7_0 S3) ((congrFun kE_S3 x0).trans r_x0) (by omega)
    replace T_S5 : ZT S5 := T_S5
    replace A_S5 : A7 S3 S5 := A_S5
    refine ok_calR h_r5 ?_
    have q_S5 := fq_X0_put h_r5
    have kE_S5 : zK S5 = zK S3 := q_S5.2.2.1
    have nE_S5 : zN S5 = zN S3 := q_S5.2.2.2.1
    have R_S5 : A7 SZ S5 := a7_t R_S3 A_S5
    refine ok_bnd (fun v6 e17 => ?_)
    have t_v6 : v6.toInt = x1.toInt + 48 := ti_add e17 rfl (show (48 : Int32).toInt = 48 from rfl) (by omega) (by omega)
    refine ok_chk ((congrFun kE_S5 x0).trans ((congrFun kE_S3 x0).trans r_x0)) ?_
    obtain ⟨⟨r7, S7⟩, h_r7, T_S7, A_S7, -⟩ := t_f_X0_put (x0 := x0) (x1 := v6) (x2 := (9 : Int32)) (SZ := S5) T_S5 (a7_0 S5) ((congrFun kE_S5 x0).trans ((congrFun kE_S3 x0).trans r_x0)) (by omega)
    replace T_S7 : ZT S7 := T_S7
    replace A_S7 : A7 S5 S7 := A_S7
    refine ok_calR h_r7 ?_
    have q_S7 := fq_X0_put h_r7
    have kE_S7 : zK S7 = zK S5 := q_S7.2.2.1
    have nE_S7 : zN S7 = zN S5 := q_S7.2.2.2.1
    have R_S7 : A7 SZ S7 := a7_t R_S5 A_S7
    refine ok_bnd (fun v8 e18 => ?_)
    have t_v8 : v8.toInt = x1.toInt + 56 := ti_add e18 rfl (show (56 : Int32).toInt = 56 from rfl) (by omega) (by omega)
    refine ok_chk (ti_in (by omega) (by omega)) ?_
    refine ok_bnd (fun v9 e19 => ?_)
    have t_v9 := zFR_b e19
    refine ok_bnd (fun v10 e20 => ?_)
    have t_v10 : v10.toInt = v9.toInt + 8 := ti_add e20 rfl (show (8 : Int32).toInt = 8 from rfl) (by omega) (by omega)
    refine ok_chk ((congrFun kE_S7 x0).trans ((congrFun kE_S5 x0).trans ((congrFun kE_S3 x0).trans r_x0))) ?_
    obtain ⟨⟨r11, S11⟩, h_r11, T_S11, A_S11, -⟩ := t_f_X0_put (x0 := x0) (x1 := v8) (x2 := v10) (SZ := S7) T_S7 (a7_0 S7) ((congrFun kE_S7 x0).trans ((congrFun kE_S5 x0).trans ((congrFun kE_S3 x0).trans r_x0))) (by omega)
    replace T_S11 : ZT S11 := T_S11
    replace A_S11 : A7 S7 S11 := A_S11
    refine ok_calR h_r11 ?_
    have q_S11 := fq_X0_put h_r11
    have kE_S11 : zK S11 = zK S7 := q_S11.2.2.1
    have nE_S11 : zN S11 = zN S7 := q_S11.2.2.2.1
    have R_S11 : A7 SZ S11 := a7_t R_S7 A_S11
    refine ok_bnd (fun v12 e21 => ?_)
    have t_v12 : v12.toInt = x1.toInt + 1 := ti_add e21 rfl (show (1 : Int32).toInt = 1 from rfl) (by omega) (by omega)
    exact hself6 x0 v12 S11 T_S11 R_S11 ((congrFun kE_S11 x0).trans ((congrFun kE_S7 x0).trans ((congrFun kE_S5 x0).trans ((congrFun kE_S3 x0).trans r_x0)))) (by omega) (by omega)
theorem t_f_X0_setUp_6 {SZ : ZS} : ∀ (n : Nat) (x0 : Nat) (x1 : Int32) (S : ZS), ZT S → A7 SZ S → (zK S x0 = 0) → ((0 : Int) ≤ x1.toInt ∧ x1.toInt ≤ (8 : Int)) → (9 - x1.toInt) < (n : Int) → Ok (f_X0_setUp_6  n x0 x1 S) (fun o => ZT o.2 ∧ A7 SZ o.2 ∧ True) := by
  intro n
  induction n with
  | zero => intro x0 x1 S hT hR g0 g1  hm; exfalso; omega
  | succ n ih =>
    intro x0 x1 S hT hR g0 g1  hm
    exact t_f_X0_setUp_6s (N6 := n)  ih hT hR g0 g1  (by omega)
theorem t_f_X0_setUp_0 {SZ S : ZS} {x0 : Nat} (hT : ZT S) (hR : A7 SZ S) (r_x0 : zK S x0 = 0) : Ok (f_X0_setUp_0 x0 S) (fun o => ZT o.2 ∧ A7 SZ o.2 ∧ True) := by
  unfold f_X0_setUp_0
  refine ok_chk r_x0 ?_
  obtain ⟨⟨r1, S1⟩, h_r1, T_S1, A_S1, -⟩ := t_f_X0_wipe (x0 := x0) (SZ := S) hT (a7_0 S) r_x0
  replace T_S1 : ZT S1 := T_S1
  replace A_S1 : A7 S S1 := A_S1
  refine ok_calR h_r1 ?_
  have q_S1 := fq_X0_wipe h_r1
  have kE_S1 : zK S1 = zK S := q_S1.2.2.1
  have nE_S1 : zN S1 = zN S := q_S1.2.2.2.1
  have R_S1 : A7 SZ S1 := a7_t hR A_S1
  exact t_f_X0_setUp_6   mFuel x0 (0 : Int32) S1 T_S1 R_S1 ((congrFun kE_S1 x0).trans r_x0) (by decide) (by show _ < ((200000 : Nat) : Int); have z0 : (0 : Int32).toInt = 0 := rfl; omega)
theorem t_f_X0_setUp {SZ S : ZS} {x0 : Nat} (hT : ZT S) (hR : A7 SZ S) (r_x0 : zK S x0 = 0) : Ok (f_X0_setUp x0 S) (fun o => ZT o.2 ∧ A7 SZ o.2 ∧ True) := t_f_X0_setUp_0 hT hR r_x0
theorem t_f_X0_copyFrom_0 {SZ S : ZS} {x0 : Nat} {x1 : Nat} (hT : ZT S) (hR : A7 SZ S) (r_x0 : zK S x0 = 0) (r_x1 : zK S x1 = 0) : Ok (f_X0_copyFrom_0 x0 x1 S) (fun o => ZT o.2 ∧ A7 SZ o.2 ∧ True) := by
  unfold f_X0_copyFrom_0
  refine ok_chk r_x1 ?_
  obtain ⟨b1, p_b1, k_b1, n_b1⟩ := T_0_0 hT r_x1
  refine ok_calR p_b1 ?_
  refine ok_chk r_x0 ?_
  obtain ⟨b2, p_b2, k_b2, n_b2⟩ := T_0_0 hT r_x0
  refine ok_calR p_b2 ?_
  refine ok_chk k_b1 ?_
  refine ok_chk k_b2 ?_
  refine ok_chk (by rw [n_b1, n_b2]; decide) ?_
  refine ok_bnd (fun S3 e22 => ?_)
  have T_S3 : ZT S3 := e22.symm ▸ zt_C hT k_b2
  have kE_S3 : zK S3 = zK S := by rw [e22]; rfl
  have nE_S3 : zN S3 = zN S := by rw [e22]; rfl
  have R_S3 : A7 SZ S3 := a7_C hR e22 hT k_b2 n_b2 (by decide)
  refine ok_chk ((congrFun kE_S3 x1).trans r_x1) ?_
  refine ok_chk ((congrFun kE_S3 x0).trans r_x0) ?_
  refine ok_bnd (fun S4 e23 => ?_)
  have j24 := J_0_1 T_S3 ((congrFun kE_S3 x1).trans r_x1)
  have T_S4 : ZT S4 := e23.symm ▸ zt_I T_S3 ((congrFun kE_S3 x0).trans r_x0) (by decide) (show (0 : Int) ≤ (zI S3 1 x1).toInt ∧ (zI S3 1 x1).toInt ≤ (63 : Int) from (by omega))
  have kE_S4 : zK S4 = zK S3 := by rw [e23]; rfl
  have nE_S4 : zN S4 = zN S3 := by rw [e23]; rfl
  have R_S4 : A7 SZ S4 := a7_I R_S3 e23 ((congrFun kE_S3 x0).trans r_x0) (by decide)
  refine ok_chk ((congrFun kE_S4 x1).trans ((congrFun kE_S3 x1).trans r_x1)) ?_
  refine ok_chk ((congrFun kE_S4 x0).trans ((congrFun kE_S3 x0).trans r_x0)) ?_
  refine ok_bnd (fun S5 e25 => ?_)
  have j26 := J_0_2 T_S4 ((congrFun kE_S4 x1).trans ((congrFun kE_S3 x1).trans r_x1))
  have T_S5 : ZT S5 := e25.symm ▸ zt_I T_S4 ((congrFun kE_S4 x0).trans ((congrFun kE_S3 x0).trans r_x0)) (by decide) (show (0 : Int) ≤ (zI S4 2 x1).toInt ∧ (zI S4 2 x1).toInt ≤ (63 : Int) from (by omega))
  have kE_S5 : zK S5 = zK S4 := by rw [e25]; rfl
  have nE_S5 : zN S5 = zN S4 := by rw [e25]; rfl
  have R_S5 : A7 SZ S5 := a7_I R_S4 e25 ((congrFun kE_S4 x0).trans ((congrFun kE_S3 x0).trans r_x0)) (by decide)
  refine ok_chk ((congrFun kE_S5 x1).trans ((congrFun kE_S4 x1).trans ((congrFun kE_S3 x1).trans r_x1))) ?_
  refine ok_chk ((congrFun kE_S5 x0).trans ((congrFun kE_S4 x0).trans ((congrFun kE_S3 x0).trans r_x0))) ?_
  refine ok_bnd (fun S6 e27 => ?_)
  have j28 := J_0_3 T_S5 ((congrFun kE_S5 x1).trans ((congrFun kE_S4 x1).trans ((congrFun kE_S3 x1).trans r_x1)))
  have T_S6 : ZT S6 := e27.symm ▸ zt_I T_S5 ((congrFun kE_S5 x0).trans ((congrFun kE_S4 x0).trans ((congrFun kE_S3 x0).trans r_x0))) (by decide) (show (0 : Int) ≤ (zI S5 3 x1).toInt ∧ (zI S5 3 x1).toInt ≤ (1 : Int) from (by omega))
  have kE_S6 : zK S6 = zK S5 := by rw [e27]; rfl
  have nE_S6 : zN S6 = zN S5 := by rw [e27]; rfl
  have R_S6 : A7 SZ S6 := a7_I R_S5 e27 ((congrFun kE_S5 x0).trans ((congrFun kE_S4 x0).trans ((congrFun kE_S3 x0).trans r_x0))) (by decide)
  refine ok_chk ((congrFun kE_S6 x1).trans ((congrFun kE_S5 x1).trans ((congrFun kE_S4 x1).trans ((congrFun kE_S3 x1).trans r_x1)))) ?_
  refine ok_chk ((congrFun kE_S6 x0).trans ((congrFun kE_S5 x0).trans ((congrFun kE_S4 x0).trans ((congrFun kE_S3 x0).trans r_x0)))) ?_
  refine ok_bnd (fun S7 e29 => ?_)
  have T_S7 : ZT S7 := e29.symm ▸ zt_W T_S6 ((congrFun kE_S6 x0).trans ((congrFun kE_S5 x0).trans ((congrFun kE_S4 x0).trans ((congrFun kE_S3 x0).trans r_x0)))) (by decide) rfl
  have kE_S7 : zK S7 = zK S6 := by rw [e29]; rfl
  have nE_S7 : zN S7 = zN S6 := by rw [e29]; rfl
  have R_S7 : A7 SZ S7 := a7_I R_S6 e29 ((congrFun kE_S6 x0).trans ((congrFun kE_S5 x0).trans ((congrFun kE_S4 x0).trans ((congrFun kE_S3 x0).trans r_x0)))) (by decide)
  refine ok_chk ((congrFun kE_S7 x1).trans ((congrFun kE_S6 x1).trans ((congrFun kE_S5 x1).trans ((congrFun kE_S4 x1).trans ((congrFun kE_S3 x1).trans r_x1))))) ?_
  refine ok_chk ((congrFun kE_S7 x0).trans ((congrFun kE_S6 x0).trans ((congrFun kE_S5 x0).trans ((congrFun kE_S4 x0).trans ((congrFun kE_S3 x0).trans r_x0))))) ?_
  refine ok_bnd (fun S8 e30 => ?_)
  have j31 := J_0_5 T_S7 ((congrFun kE_S7 x1).trans ((congrFun kE_S6 x1).trans ((congrFun kE_S5 x1).trans ((congrFun kE_S4 x1).trans ((congrFun kE_S3 x1).trans r_x1)))))
  have T_S8 : ZT S8 := e30.symm ▸ zt_I T_S7 ((congrFun kE_S7 x0).trans ((congrFun kE_S6 x0).trans ((congrFun kE_S5 x0).trans ((congrFun kE_S4 x0).trans ((congrFun kE_S3 x0).trans r_x0))))) (by decide) (show (-1 : Int) ≤ (zI S7 5 x1).toInt ∧ (zI S7 5 x1).toInt ≤ (63 : Int) from (by omega))
  have kE_S8 : zK S8 = zK S7 := by rw [e30]; rfl
  have nE_S8 : zN S8 = zN S7 := by rw [e30]; rfl
  have R_S8 : A7 SZ S8 := a7_I R_S7 e30 ((congrFun kE_S7 x0).trans ((congrFun kE_S6 x0).trans ((congrFun kE_S5 x0).trans ((congrFun kE_S4 x0).trans ((congrFun kE_S3 x0).trans r_x0))))) (by decide)
  refine ok_chk ((congrFun kE_S8 x1).trans ((congrFun kE_S7 x1).trans ((congrFun kE_S6 x1).trans ((congrFun kE_S5 x1).trans ((congrFun kE_S4 x1).trans ((congrFun kE_S3 x1).trans r_x1)))))) ?_
  refine ok_chk ((congrFun kE_S8 x0).trans ((congrFun kE_S7 x0).trans ((congrFun kE_S6 x0).trans ((congrFun kE_S5 x0).trans ((congrFun kE_S4 x0).trans ((congrFun kE_S3 x0).trans r_x0)))))) ?_
  refine ok_bnd (fun S9 e32 => ?_)
  have T_S9 : ZT S9 := e32.symm ▸ zt_W T_S8 ((congrFun kE_S8 x0).trans ((congrFun kE_S7 x0).trans ((congrFun kE_S6 x0).trans ((congrFun kE_S5 x0).trans ((congrFun kE_S4 x0).trans ((congrFun kE_S3 x0).trans r_x0)))))) (by decide) rfl
  have kE_S9 : zK S9 = zK S8 := by rw [e32]; rfl
  have nE_S9 : zN S9 = zN S8 := by rw [e32]; rfl
  have R_S9 : A7 SZ S9 := a7_I R_S8 e32 ((congrFun kE_S8 x0).trans ((congrFun kE_S7 x0).trans ((congrFun kE_S6 x0).trans ((congrFun kE_S5 x0).trans ((congrFun kE_S4 x0).trans ((congrFun kE_S3 x0).trans r_x0)))))) (by decide)
  exact ok_ret ⟨T_S9, R_S9, trivial⟩
theorem t_f_X0_copyFrom {SZ S : ZS} {x0 : Nat} {x1 : Nat} (hT : ZT S) (hR : A7 SZ S) (r_x0 : zK S x0 = 0) (r_x1 : zK S x1 = 0) : Ok (f_X0_copyFrom x0 x1 S) (fun o => ZT o.2 ∧ A7 SZ o.2 ∧ True) := t_f_X0_copyFrom_0 hT hR r_x0 r_x1
theorem t_f_X0_kindAt_0 {S : ZS} {x0 : Nat} {x1 : Int32} (hT : ZT S) (r_x0 : zK S x0 = 0) (r_x1 : (0 : Int) ≤ x1.toInt ∧ x1.toInt ≤ (63 : Int)) : Ok (f_X0_kindAt_0 x0 x1 S) (fun o => o.2 = S ∧ ((0 : Int) ≤ o.1.toInt ∧ o.1.toInt ≤ (7 : Int))) := by
  unfold f_X0_kindAt_0
  refine ok_chk r_x0 ?_
  obtain ⟨b1, p_b1, k_b1, n_b1⟩ := T_0_0 hT r_x0
  refine ok_calR p_b1 ?_
  refine ok_chk k_b1 ?_
  refine ok_chk (ti_inN (v := x1) (n := 64) n_b1 (by omega) (by omega)) ?_
  refine ok_bnd (fun v2 e33 => ?_)
  refine ok_bnd (fun v3 e34 => ?_)
  have t_v3 := ti_and e34 (show (7 : Int32).toBitVec.toNat = 7 from rfl) (by decide)
  exact ok_ret ⟨rfl, (show (0 : Int) ≤ v3.toInt ∧ v3.toInt ≤ (7 : Int) from (by omega))⟩
theorem t_f_X0_kindAt {S : ZS} {x0 : Nat} {x1 : Int32} (hT : ZT S) (r_x0 : zK S x0 = 0) (r_x1 : (0 : Int) ≤ x1.toInt ∧ x1.toInt ≤ (63 : Int)) : Ok (f_X0_kindAt x0 x1 S) (fun o => o.2 = S ∧ ((0 : Int) ≤ o.1.toInt ∧ o.1.toInt ≤ (7 : Int))) := t_f_X0_kindAt_0 hT r_x0 r_x1
theorem t_f_X0_kingOf_0 {S : ZS} {x0 : Nat} {x1 : Int32} (hT : ZT S) (r_x0 : zK S x0 = 0) : Ok (f_X0_kingOf_0 x0 x1 S) (fun o => o.2 = S ∧ ((0 : Int) ≤ o.1.toInt ∧ o.1.toInt ≤ (63 : Int))) := by
  unfold f_X0_kingOf_0
  refine ok_if (fun c35 => ?_) (fun c35 => ?_)
  ·
    replace c35 := ti_eqP (a := x1) (b := (0 : Int32)) c35 rfl (show (0 : Int32).toInt = 0 from rfl)
    refine ok_chk r_x0 ?_
    unfold f_X0_kingOf_15
    have j36 := J_0_1 hT r_x0
    exact ok_ret ⟨rfl, (show (0 : Int) ≤ (zI S 1 x0).toInt ∧ (zI S 1 x0).toInt ≤ (63 : Int) from (by omega))⟩
  ·
    replace c35 := ti_eqN (a := x1) (b := (0 : Int32)) c35 rfl (show (0 : Int32).toInt = 0 from rfl)
    refine ok_chk r_x0 ?_
    unfold f_X0_kingOf_15
    have j37 := J_0_2 hT r_x0
    exact ok_ret ⟨rfl, (show (0 : Int) ≤ (zI S 2 x0).toInt ∧ (zI S 2 x0).toInt ≤ (63 : Int) from (by omega))⟩
theorem t_f_X0_kingOf {S : ZS} {x0 : Nat} {x1 : Int32} (hT : ZT S) (r_x0 : zK S x0 = 0) : Ok (f_X0_kingOf x0 x1 S) (fun o => o.2 = S ∧ ((0 : Int) ≤ o.1.toInt ∧ o.1.toInt ≤ (63 : Int))) := t_f_X0_kingOf_0 hT r_x0
theorem t_f_X0_attacks_281s {S : ZS} {self281 : Nat → Int32 → Int32 → Int32 → Int32 → ZS → Option (Int32 × ZS)} {N281 : Nat} (hself281 : ∀ (x0 : Nat) (x1 : Int32) (x8 : Int32) (x11 : Int32) (x12 : Int32),  (zK S x0 = 0) → ((0 : Int) ≤ x1.toInt ∧ x1.toInt ≤ (63 : Int)) → ((0 : Int) ≤ x8.toInt ∧ x8.toInt ≤ (7 : Int)) → ((-9 : Int) ≤ x11.toInt ∧ x11.toInt ≤ (9 : Int)) → ((1 : Int) ≤ x12.toInt ∧ x12.toInt ≤ (8 : Int)) → (wayk x1.toInt x11.toInt x8.toInt) → (9 - x12.toInt) < (N281 : Int) → Ok (self281 x0 x1 x8 x11 x12 S) (fun o => o.2 = S ∧ ((0 : Int) ≤ o.1.toInt ∧ o.1.toInt ≤ (1 : Int)))) {x0 : Nat} {x1 : Int32} {x8 : Int32} {x11 : Int32} {x12 : Int32} (hT : ZT S) (r_x0 : zK S x0 = 0) (r_x1 : (0 : Int) ≤ x1.toInt ∧ x1.toInt ≤ (63 : Int)) (r_x8 : (0 : Int) ≤ x8.toInt ∧ x8.toInt ≤ (7 : Int)) (r_x11 : (-9 : Int) ≤ x11.toInt ∧ x11.toInt ≤ (9 : Int)) (r_x12 : (1 : Int) ≤ x12.toInt ∧ x12.toInt ≤ (8 : Int)) (q0 : wayk x1.toInt x11.toInt x8.toInt) (m281 : (9 - x12.toInt) ≤ (N281 : Int)) : Ok (f_X0_attacks_281s self281 x0 x1 x8 x11 x12 S) (fun o => o.2 = S ∧ ((0 : Int) ≤ o.1.toInt ∧ o.1.toInt ≤ (1 : Int))) := by
  unfold f_X0_attacks_281s
  refine ok_if (fun c38 => ?_) (fun c38 => ?_)
  ·
    replace c38 := ti_leP (a := x8) (b := x12) c38 rfl rfl
    refine ok_chk (by decide) ?_
    exact ok_ret ⟨rfl, (show (0 : Int) ≤ (1 : Int32).toInt ∧ (1 : Int32).toInt ≤ (1 : Int) from (by decide))⟩
  ·
    replace c38 := ti_leN (a := x8) (b := x12) c38 rfl rfl
    refine ok_chk r_x0 ?_
    obtain ⟨b1, p_b1, k_b1, n_b1⟩ := T_0_0 hT r_x0
    refine ok_calR p_b1 ?_
    refine ok_bnd (fun v2 e39 => ?_)
    have w2 := q0 x12.toInt (by omega) (by omega)
    have t_v2 : v2.toInt = x12.toInt * x11.toInt := ti_mul e39 rfl rfl (by omega) (by omega)
    refine ok_bnd (fun v3 e40 => ?_)
    have t_v3 : v3.toInt = x1.toInt + v2.toInt := ti_add e40 rfl rfl (by omega) (by omega)
    refine ok_chk k_b1 ?_
    refine ok_chk (ti_inN (v := v3) (n := 64) n_b1 (by omega) (by omega)) ?_
    refine ok_bnd (fun v4 e41 => ?_)
    refine ok_if (fun c42 => ?_) (fun c42 => ?_)
    ·
      replace c42 := ti_eqP (a := v4) (b := (0 : Int32)) c42 rfl (show (0 : Int32).toInt = 0 from rfl)
      refine ok_bnd (fun v5 e43 => ?_)
      have t_v5 : v5.toInt = x12.toInt + 1 := ti_add e43 rfl (show (1 : Int32).toInt = 1 from rfl) (by omega) (by omega)
      exact hself281 x0 x1 x8 x11 v5  r_x0 r_x1 r_x8 r_x11 (by omega) q0 (by omega)
    ·
      replace c42 := ti_eqN (a := v4) (b := (0 : Int32)) c42 rfl (show (0 : Int32).toInt = 0 from rfl)
      refine ok_chk (by decide) ?_
      exact ok_ret ⟨rfl, (show (0 : Int) ≤ (0 : Int32).toInt ∧ (0 : Int32).toInt ≤ (1 : Int) from (by decide))⟩
theorem t_f_X0_attacks_281 {S : ZS} (hT : ZT S) : ∀ (n : Nat) (x0 : Nat) (x1 : Int32) (x8 : Int32) (x11 : Int32) (x12 : Int32),  (zK S x0 = 0) → ((0 : Int) ≤ x1.toInt ∧ x1.toInt ≤ (63 : Int)) → ((0 : Int) ≤ x8.toInt ∧ x8.toInt ≤ (7 : Int)) → ((-9 : Int) ≤ x11.toInt ∧ x11.toInt ≤ (9 : Int)) → ((1 : Int) ≤ x12.toInt ∧ x12.toInt ≤ (8 : Int)) → (wayk x1.toInt x11.toInt x8.toInt) → (9 - x12.toInt) < (n : Int) → Ok (f_X0_attacks_281  n x0 x1 x8 x11 x12 S) (fun o => o.2 = S ∧ ((0 : Int) ≤ o.1.toInt ∧ o.1.toInt ≤ (1 : Int))) := by
  intro n
  induction n with
  | zero => intro x0 x1 x8 x11 x12 g0 g1 g2 g3 g4 g5  hm; exfalso; omega
  | succ n ih =>
    intro x0 x1 x8 x11 x12 g0 g1 g2 g3 g4 g5  hm
    exact t_f_X0_attacks_281s (N281 := n)  ih hT g0 g1 g2 g3 g4 g5  (by omega)
theorem t_f_X0_attacks_275 {S : ZS} {x0 : Nat} {x1 : Int32} {x8 : Int32} {t0 : Int32} {t1 : Int32} (hT : ZT S) (r_x0 : zK S x0 = 0) (r_x1 : (0 : Int) ≤ x1.toInt ∧ x1.toInt ≤ (63 : Int)) (r_x8 : (0 : Int) ≤ x8.toInt ∧ x8.toInt ≤ (7 : Int)) (r_t0 : (-8 : Int) ≤ t0.toInt ∧ t0.toInt ≤ (8 : Int)) (r_t1 : (-1 : Int) ≤ t1.toInt ∧ t1.toInt ≤ (1 : Int)) (q0 : wayk x1.toInt (t1.toInt + t0.toInt) x8.toInt) : Ok (f_X0_attacks_275 x0 x1 x8 t0 t1 S) (fun o => o.2 = S ∧ ((0 : Int) ≤ o.1.toInt ∧ o.1.toInt ≤ (1 : Int))) := by
  unfold f_X0_attacks_275
  refine ok_bnd (fun v1 e44 => ?_)
  have t_v1 : v1.toInt = t1.toInt + t0.toInt := ti_add e44 rfl rfl (by omega) (by omega)
  exact t_f_X0_attacks_281  hT mFuel x0 x1 x8 v1 (1 : Int32)  r_x0 r_x1 r_x8 (by omega) (by decide) (by rw [t_v1]; exact q0) (by show _ < ((200000 : Nat) : Int); have z0 : (1 : Int32).toInt = 1 := rfl; omega)
theorem t_f_X0_attacks_254 {S : ZS} {x0 : Nat} {x1 : Int32} {x4 : Int32} {x8 : Int32} {t0 : Int32} (hT : ZT S) (r_x0 : zK S x0 = 0) (r_x1 : (0 : Int) ≤ x1.toInt ∧ x1.toInt ≤ (63 : Int)) (r_x4 : (-7 : Int) ≤ x4.toInt ∧ x4.toInt ≤ (7 : Int)) (r_x8 : (0 : Int) ≤ x8.toInt ∧ x8.toInt ≤ (7 : Int)) (r_t0 : (-1 : Int) ≤ t0.toInt ∧ t0.toInt ≤ (1 : Int)) (q0 : way3 x1.toInt t0.toInt x4.toInt x8.toInt) : Ok (f_X0_attacks_254 x0 x1 x4 x8 t0 S) (fun o => o.2 = S ∧ ((0 : Int) ≤ o.1.toInt ∧ o.1.toInt ≤ (1 : Int))) := by
  unfold f_X0_attacks_254
  refine ok_if (fun c45 => ?_) (fun c45 => ?_)
  ·
    replace c45 := ti_leP (a := x4) (b := (0 : Int32)) c45 rfl (show (0 : Int32).toInt = 0 from rfl)
    refine ok_if (fun c46 => ?_) (fun c46 => ?_)
    ·
      replace c46 := ti_leP (a := (0 : Int32)) (b := x4) c46 (show (0 : Int32).toInt = 0 from rfl) rfl
      exact t_f_X0_attacks_275 (S := S)  (x0 := x0) (x1 := x1) (x8 := x8) (t0 := (0 : Int32)) (t1 := t0) hT r_x0 r_x1 r_x8 (by decide) r_t0 (way3_0 r_t0 r_x1 q0 (by omega))
    ·
      replace c46 := ti_leN (a := (0 : Int32)) (b := x4) c46 (show (0 : Int32).toInt = 0 from rfl) rfl
      exact t_f_X0_attacks_275 (S := S)  (x0 := x0) (x1 := x1) (x8 := x8) (t0 := (-8 : Int32)) (t1 := t0) hT r_x0 r_x1 r_x8 (by decide) r_t0 (way3_m r_t0 r_x1 q0 (by omega))
  ·
    replace c45 := ti_leN (a := x4) (b := (0 : Int32)) c45 rfl (show (0 : Int32).toInt = 0 from rfl)
    exact t_f_X0_attacks_275 (S := S)  (x0 := x0) (x1 := x1) (x8 := x8) (t0 := (8 : Int32)) (t1 := t0) hT r_x0 r_x1 r_x8 (by decide) r_t0 (way3_p r_t0 r_x1 q0 (by omega))
theorem t_f_X0_attacks_223 {S : ZS} {x0 : Nat} {x1 : Int32} {x3 : Int32} {x4 : Int32} {x8 : Int32} {t0 : Int32} (hT : ZT S) (r_x0 : zK S x0 = 0) (r_x1 : (0 : Int) ≤ x1.toInt ∧ x1.toInt ≤ (63 : Int)) (r_x3 : (-7 : Int) ≤ x3.toInt ∧ x3.toInt ≤ (7 : Int)) (r_x4 : (-7 : Int) ≤ x4.toInt ∧ x4.toInt ≤ (7 : Int)) (r_x8 : (0 : Int) ≤ x8.toInt ∧ x8.toInt ≤ (7 : Int)) (r_t0 : (0 : Int) ≤ t0.toInt ∧ t0.toInt ≤ (1 : Int)) (q0 : 0 ≤ x1.toInt % 8 + x3.toInt ∧ x1.toInt % 8 + x3.toInt ≤ 7 ∧ 0 ≤ x1.toInt / 8 + x4.toInt ∧ x1.toInt / 8 + x4.toInt ≤ 7) (q1 : x3.toInt ≤ x8.toInt ∧ -x3.toInt ≤ x8.toInt ∧ x4.toInt ≤ x8.toInt ∧ -x4.toInt ≤ x8.toInt ∧ (x8.toInt = x3.toInt ∨ x8.toInt = -x3.toInt ∨ x8.toInt = x4.toInt ∨ x8.toInt = -x4.toInt)) (q2 : t0.toInt = 1 → x3.toInt = 0 ∨ x4.toInt = 0 ∨ x3.toInt = x4.toInt ∨ x3.toInt = -x4.toInt) : Ok (f_X0_attacks_223 x0 x1 x3 x4 x8 t0 S) (fun o => o.2 = S ∧ ((0 : Int) ≤ o.1.toInt ∧ o.1.toInt ≤ (1 : Int))) := by
  unfold f_X0_attacks_223
  refine ok_if (fun c47 => ?_) (fun c47 => ?_)
  ·
    replace c47 := ti_eqP (a := t0) (b := (0 : Int32)) c47 rfl (show (0 : Int32).toInt = 0 from rfl)
    unfold f_X0_attacks_235
    refine ok_chk (by decide) ?_
    exact ok_ret ⟨rfl, (show (0 : Int) ≤ (0 : Int32).toInt ∧ (0 : Int32).toInt ≤ (1 : Int) from (by decide))⟩
  ·
    replace c47 := ti_eqN (a := t0) (b := (0 : Int32)) c47 rfl (show (0 : Int32).toInt = 0 from rfl)
    refine ok_if (fun c48 => ?_) (fun c48 => ?_)
    ·
      replace c48 := ti_eqP (a := x8) (b := (0 : Int32)) c48 rfl (show (0 : Int32).toInt = 0 from rfl)
      unfold f_X0_attacks_235
      refine ok_chk (by decide) ?_
      exact ok_ret ⟨rfl, (show (0 : Int) ≤ (0 : Int32).toInt ∧ (0 : Int32).toInt ≤ (1 : Int) from (by decide))⟩
    ·
      replace c48 := ti_eqN (a := x8) (b := (0 : Int32)) c48 rfl (show (0 : Int32).toInt = 0 from rfl)
      refine ok_if (fun c49 => ?_) (fun c49 => ?_)
      ·
        replace c49 := ti_leP (a := x3) (b := (0 : Int32)) c49 rfl (show (0 : Int32).toInt = 0 from rfl)
        refine ok_if (fun c50 => ?_) (fun c50 => ?_)
        ·
          replace c50 := ti_leP (a := (0 : Int32)) (b := x3) c50 (show (0 : Int32).toInt = 0 from rfl) rfl
          exact t_f_X0_attacks_254 (S := S)  (x0 := x0) (x1 := x1) (x4 := x4) (x8 := x8) (t0 := (0 : Int32)) hT r_x0 r_x1 r_x4 r_x8 (by decide) (way3_mk q0 q1 (q2 (by omega)) (by have z0 : (0 : Int32).toInt = 0 := rfl; have z1 : (1 : Int32).toInt = 1 := rfl; have z2 : (-1 : Int32).toInt = -1 := rfl; omega))
        ·
          replace c50 := ti_leN (a := (0 : Int32)) (b := x3) c50 (show (0 : Int32).toInt = 0 from rfl) rfl
          exact t_f_X0_attacks_254 (S := S)  (x0 := x0) (x1 := x1) (x4 := x4) (x8 := x8) (t0 := (-1 : Int32)) hT r_x0 r_x1 r_x4 r_x8 (by decide) (way3_mk q0 q1 (q2 (by omega)) (by have z0 : (0 : Int32).toInt = 0 := rfl; have z1 : (1 : Int32).toInt = 1 := rfl; have z2 : (-1 : Int32).toInt = -1 := rfl; omega))
      ·
        replace c49 := ti_leN (a := x3) (b := (0 : Int32)) c49 rfl (show (0 : Int32).toInt = 0 from rfl)
        exact t_f_X0_attacks_254 (S := S)  (x0 := x0) (x1 := x1) (x4 := x4) (x8 := x8) (t0 := (1 : Int32)) hT r_x0 r_x1 r_x4 r_x8 (by decide) (way3_mk q0 q1 (q2 (by omega)) (by have z0 : (0 : Int32).toInt = 0 := rfl; have z1 : (1 : Int32).toInt = 1 := rfl; have z2 : (-1 : Int32).toInt = -1 := rfl; omega))
theorem t_f_X0_attacks_172 {S : ZS} {x0 : Nat} {x1 : Int32} {x3 : Int32} {x4 : Int32} {x5 : Int32} {x6 : Int32} {x7 : Int32} {x8 : Int32} {t0 : Int32} (hT : ZT S) (r_x0 : zK S x0 = 0) (r_x1 : (0 : Int) ≤ x1.toInt ∧ x1.toInt ≤ (63 : Int)) (r_x3 : (-7 : Int) ≤ x3.toInt ∧ x3.toInt ≤ (7 : Int)) (r_x4 : (-7 : Int) ≤ x4.toInt ∧ x4.toInt ≤ (7 : Int)) (r_x5 : (0 : Int) ≤ x5.toInt ∧ x5.toInt ≤ (7 : Int)) (r_x6 : (0 : Int) ≤ x6.toInt ∧ x6.toInt ≤ (7 : Int)) (r_x7 : (0 : Int) ≤ x7.toInt ∧ x7.toInt ≤ (7 : Int)) (r_x8 : (0 : Int) ≤ x8.toInt ∧ x8.toInt ≤ (7 : Int)) (r_t0 : (0 : Int) ≤ t0.toInt ∧ t0.toInt ≤ (1 : Int)) (q0 : 0 ≤ x1.toInt % 8 + x3.toInt ∧ x1.toInt % 8 + x3.toInt ≤ 7 ∧ 0 ≤ x1.toInt / 8 + x4.toInt ∧ x1.toInt / 8 + x4.toInt ≤ 7) (q1 : x3.toInt ≤ x8.toInt ∧ -x3.toInt ≤ x8.toInt ∧ x4.toInt ≤ x8.toInt ∧ -x4.toInt ≤ x8.toInt ∧ (x8.toInt = x3.toInt ∨ x8.toInt = -x3.toInt ∨ x8.toInt = x4.toInt ∨ x8.toInt = -x4.toInt)) (q2 : (x6.toInt = x3.toInt ∨ x6.toInt = -x3.toInt) ∧ (x7.toInt = x4.toInt ∨ x7.toInt = -x4.toInt)) (q3 : t0.toInt = 1 → x6.toInt = 0 ∨ x7.toInt = 0) : Ok (f_X0_attacks_172 x0 x1 x3 x4 x5 x6 x7 x8 t0 S) (fun o => o.2 = S ∧ ((0 : Int) ≤ o.1.toInt ∧ o.1.toInt ≤ (1 : Int))) := by
  unfold f_X0_attacks_172
  refine ok_if (fun c51 => ?_) (fun c51 => ?_)
  ·
    replace c51 := ti_eqP (a := t0) (b := (0 : Int32)) c51 rfl (show (0 : Int32).toInt = 0 from rfl)
    refine ok_if (fun c52 => ?_) (fun c52 => ?_)
    ·
      replace c52 := ti_eqP (a := x6) (b := x7) c52 rfl rfl
      refine ok_if (fun c53 => ?_) (fun c53 => ?_)
      ·
        replace c53 := ti_eqP (a := x5) (b := (3 : Int32)) c53 rfl (show (3 : Int32).toInt = 3 from rfl)
        unfold f_X0_attacks_218
        exact t_f_X0_attacks_223 (S := S)  (x0 := x0) (x1 := x1) (x3 := x3) (x4 := x4) (x8 := x8) (t0 := (1 : Int32)) hT r_x0 r_x1 r_x3 r_x4 r_x8 (by decide) q0 q1 (by have z0 : (1 : Int32).toInt = 1 := rfl; omega)
      ·
        replace c53 := ti_eqN (a := x5) (b := (3 : Int32)) c53 rfl (show (3 : Int32).toInt = 3 from rfl)
        refine ok_if (fun c54 => ?_) (fun c54 => ?_)
        ·
          replace c54 := ti_eqP (a := x5) (b := (5 : Int32)) c54 rfl (show (5 : Int32).toInt = 5 from rfl)
          unfold f_X0_attacks_218
          exact t_f_X0_attacks_223 (S := S)  (x0 := x0) (x1 := x1) (x3 := x3) (x4 := x4) (x8 := x8) (t0 := (1 : Int32)) hT r_x0 r_x1 r_x3 r_x4 r_x8 (by decide) q0 q1 (by have z0 : (1 : Int32).toInt = 1 := rfl; omega)
        ·
          replace c54 := ti_eqN (a := x5) (b := (5 : Int32)) c54 rfl (show (5 : Int32).toInt = 5 from rfl)
          unfold f_X0_attacks_222
          exact t_f_X0_attacks_223 (S := S)  (x0 := x0) (x1 := x1) (x3 := x3) (x4 := x4) (x8 := x8) (t0 := (0 : Int32)) hT r_x0 r_x1 r_x3 r_x4 r_x8 (by decide) q0 q1 (by have z0 : (0 : Int32).toInt = 0 := rfl; omega)
    ·
      replace c52 := ti_eqN (a := x6) (b := x7) c52 rfl rfl
      unfold f_X0_attacks_222
      exact t_f_X0_attacks_223 (S := S)  (x0 := x0) (x1 := x1) (x3 := x3) (x4 := x4) (x8 := x8) (t0 := (0 : Int32)) hT r_x0 r_x1 r_x3 r_x4 r_x8 (by decide) q0 q1 (by have z0 : (0 : Int32).toInt = 0 := rfl; omega)
  ·
    replace c51 := ti_eqN (a := t0) (b := (0 : Int32)) c51 rfl (show (0 : Int32).toInt = 0 from rfl)
    refine ok_if (fun c55 => ?_) (fun c55 => ?_)
    ·
      replace c55 := ti_eqP (a := x5) (b := (4 : Int32)) c55 rfl (show (4 : Int32).toInt = 4 from rfl)
      unfold f_X0_attacks_191
      exact t_f_X0_attacks_223 (S := S)  (x0 := x0) (x1 := x1) (x3 := x3) (x4 := x4) (x8 := x8) (t0 := (1 : Int32)) hT r_x0 r_x1 r_x3 r_x4 r_x8 (by decide) q0 q1 (by have z0 : (1 : Int32).toInt = 1 := rfl; omega)
    ·
      replace c55 := ti_eqN (a := x5) (b := (4 : Int32)) c55 rfl (show (4 : Int32).toInt = 4 from rfl)
      refine ok_if (fun c56 => ?_) (fun c56 => ?_)
      ·
        replace c56 := ti_eqP (a := x5) (b := (5 : Int32)) c56 rfl (show (5 : Int32).toInt = 5 from rfl)
        unfold f_X0_attacks_191
        exact t_f_X0_attacks_223 (S := S)  (x0 := x0) (x1 := x1) (x3 := x3) (x4 := x4) (x8 := x8) (t0 := (1 : Int32)) hT r_x0 r_x1 r_x3 r_x4 r_x8 (by decide) q0 q1 (by have z0 : (1 : Int32).toInt = 1 := rfl; omega)
      ·
        replace c56 := ti_eqN (a := x5) (b := (5 : Int32)) c56 rfl (show (5 : Int32).toInt = 5 from rfl)
        exact t_f_X0_attacks_223 (S := S)  (x0 := x0) (x1 := x1) (x3 := x3) (x4 := x4) (x8 := x8) (t0 := (0 : Int32)) hT r_x0 r_x1 r_x3 r_x4 r_x8 (by decide) q0 q1 (by have z0 : (0 : Int32).toInt = 0 := rfl; omega)
theorem t_f_X0_attacks_136 {S : ZS} {x0 : Nat} {x1 : Int32} {x3 : Int32} {x4 : Int32} {x5 : Int32} {x6 : Int32} {x7 : Int32} {t0 : Int32} (hT : ZT S) (r_x0 : zK S x0 = 0) (r_x1 : (0 : Int) ≤ x1.toInt ∧ x1.toInt ≤ (63 : Int)) (r_x3 : (-7 : Int) ≤ x3.toInt ∧ x3.toInt ≤ (7 : Int)) (r_x4 : (-7 : Int) ≤ x4.toInt ∧ x4.toInt ≤ (7 : Int)) (r_x5 : (0 : Int) ≤ x5.toInt ∧ x5.toInt ≤ (7 : Int)) (r_x6 : (0 : Int) ≤ x6.toInt ∧ x6.toInt ≤ (7 : Int)) (r_x7 : (0 : Int) ≤ x7.toInt ∧ x7.toInt ≤ (7 : Int)) (r_t0 : (0 : Int) ≤ t0.toInt ∧ t0.toInt ≤ (7 : Int)) (q0 : 0 ≤ x1.toInt % 8 + x3.toInt ∧ x1.toInt % 8 + x3.toInt ≤ 7 ∧ 0 ≤ x1.toInt / 8 + x4.toInt ∧ x1.toInt / 8 + x4.toInt ≤ 7) (q1 : x3.toInt ≤ t0.toInt ∧ -x3.toInt ≤ t0.toInt ∧ x4.toInt ≤ t0.toInt ∧ -x4.toInt ≤ t0.toInt ∧ (t0.toInt = x3.toInt ∨ t0.toInt = -x3.toInt ∨ t0.toInt = x4.toInt ∨ t0.toInt = -x4.toInt)) (q2 : (x6.toInt = x3.toInt ∨ x6.toInt = -x3.toInt) ∧ (x7.toInt = x4.toInt ∨ x7.toInt = -x4.toInt)) : Ok (f_X0_attacks_136 x0 x1 x3 x4 x5 x6 x7 t0 S) (fun o => o.2 = S ∧ ((0 : Int) ≤ o.1.toInt ∧ o.1.toInt ≤ (1 : Int))) := by
  unfold f_X0_attacks_136
  refine ok_if (fun c57 => ?_) (fun c57 => ?_)
  ·
    replace c57 := ti_eqP (a := x5) (b := (6 : Int32)) c57 rfl (show (6 : Int32).toInt = 6 from rfl)
    refine ok_if (fun c58 => ?_) (fun c58 => ?_)
    ·
      replace c58 := ti_eqP (a := t0) (b := (1 : Int32)) c58 rfl (show (1 : Int32).toInt = 1 from rfl)
      unfold f_X0_attacks_156
      refine ok_chk (by decide) ?_
      exact ok_ret ⟨rfl, (show (0 : Int) ≤ (1 : Int32).toInt ∧ (1 : Int32).toInt ≤ (1 : Int) from (by decide))⟩
    ·
      replace c58 := ti_eqN (a := t0) (b := (1 : Int32)) c58 rfl (show (1 : Int32).toInt = 1 from rfl)
      unfold f_X0_attacks_156
      refine ok_chk (by decide) ?_
      exact ok_ret ⟨rfl, (show (0 : Int) ≤ (0 : Int32).toInt ∧ (0 : Int32).toInt ≤ (1 : Int) from (by decide))⟩
  ·
    replace c57 := ti_eqN (a := x5) (b := (6 : Int32)) c57 rfl (show (6 : Int32).toInt = 6 from rfl)
    refine ok_if (fun c59 => ?_) (fun c59 => ?_)
    ·
      replace c59 := ti_eqP (a := x6) (b := (0 : Int32)) c59 rfl (show (0 : Int32).toInt = 0 from rfl)
      unfold f_X0_attacks_167
      exact t_f_X0_attacks_172 (S := S)  (x0 := x0) (x1 := x1) (x3 := x3) (x4 := x4) (x5 := x5) (x6 := x6) (x7 := x7) (x8 := t0) (t0 := (1 : Int32)) hT r_x0 r_x1 r_x3 r_x4 r_x5 r_x6 r_x7 r_t0 (by decide) q0 q1 q2 (by have z0 : (1 : Int32).toInt = 1 := rfl; omega)
    ·
      replace c59 := ti_eqN (a := x6) (b := (0 : Int32)) c59 rfl (show (0 : Int32).toInt = 0 from rfl)
      refine ok_if (fun c60 => ?_) (fun c60 => ?_)
      ·
        replace c60 := ti_eqP (a := x7) (b := (0 : Int32)) c60 rfl (show (0 : Int32).toInt = 0 from rfl)
        unfold f_X0_attacks_167
        exact t_f_X0_attacks_172 (S := S)  (x0 := x0) (x1 := x1) (x3 := x3) (x4 := x4) (x5 := x5) (x6 := x6) (x7 := x7) (x8 := t0) (t0 := (1 : Int32)) hT r_x0 r_x1 r_x3 r_x4 r_x5 r_x6 r_x7 r_t0 (by decide) q0 q1 q2 (by have z0 : (1 : Int32).toInt = 1 := rfl; omega)
      ·
        replace c60 := ti_eqN (a := x7) (b := (0 : Int32)) c60 rfl (show (0 : Int32).toInt = 0 from rfl)
        exact t_f_X0_attacks_172 (S := S)  (x0 := x0) (x1 := x1) (x3 := x3) (x4 := x4) (x5 := x5) (x6 := x6) (x7 := x7) (x8 := t0) (t0 := (0 : Int32)) hT r_x0 r_x1 r_x3 r_x4 r_x5 r_x6 r_x7 r_t0 (by decide) q0 q1 q2 (by have z0 : (0 : Int32).toInt = 0 := rfl; omega)
theorem t_f_X0_attacks_120 {S : ZS} {x0 : Nat} {x1 : Int32} {x3 : Int32} {x4 : Int32} {x5 : Int32} {x6 : Int32} {t0 : Int32} (hT : ZT S) (r_x0 : zK S x0 = 0) (r_x1 : (0 : Int) ≤ x1.toInt ∧ x1.toInt ≤ (63 : Int)) (r_x3 : (-7 : Int) ≤ x3.toInt ∧ x3.toInt ≤ (7 : Int)) (r_x4 : (-7 : Int) ≤ x4.toInt ∧ x4.toInt ≤ (7 : Int)) (r_x5 : (0 : Int) ≤ x5.toInt ∧ x5.toInt ≤ (7 : Int)) (r_x6 : (0 : Int) ≤ x6.toInt ∧ x6.toInt ≤ (7 : Int)) (r_t0 : (0 : Int) ≤ t0.toInt ∧ t0.toInt ≤ (7 : Int)) (q0 : 0 ≤ x1.toInt % 8 + x3.toInt ∧ x1.toInt % 8 + x3.toInt ≤ 7 ∧ 0 ≤ x1.toInt / 8 + x4.toInt ∧ x1.toInt / 8 + x4.toInt ≤ 7) (q1 : (x6.toInt = x3.toInt ∨ x6.toInt = -x3.toInt) ∧ (t0.toInt = x4.toInt ∨ t0.toInt = -x4.toInt)) : Ok (f_X0_attacks_120 x0 x1 x3 x4 x5 x6 t0 S) (fun o => o.2 = S ∧ ((0 : Int) ≤ o.1.toInt ∧ o.1.toInt ≤ (1 : Int))) := by
  unfold f_X0_attacks_120
  refine ok_if (fun c61 => ?_) (fun c61 => ?_)
  ·
    replace c61 := ti_leP (a := x6) (b := t0) c61 rfl rfl
    exact t_f_X0_attacks_136 (S := S)  (x0 := x0) (x1 := x1) (x3 := x3) (x4 := x4) (x5 := x5) (x6 := x6) (x7 := t0) (t0 := t0) hT r_x0 r_x1 r_x3 r_x4 r_x5 r_x6 r_t0 r_t0 q0 (by omega) q1
  ·
    replace c61 := ti_leN (a := x6) (b := t0) c61 rfl rfl
    exact t_f_X0_attacks_136 (S := S)  (x0 := x0) (x1 := x1) (x3 := x3) (x4 := x4) (x5 := x5) (x6 := x6) (x7 := t0) (t0 := x6) hT r_x0 r_x1 r_x3 r_x4 r_x5 r_x6 r_t0 r_x6 q0 (by omega) q1
theorem t_f_X0_attacks_105 {S : ZS} {x0 : Nat} {x1 : Int32} {x3 : Int32} {x4 : Int32} {x5 : Int32} {t0 : Int32} (hT : ZT S) (r_x0 : zK S x0 = 0) (r_x1 : (0 : Int) ≤ x1.toInt ∧ x1.toInt ≤ (63 : Int)) (r_x3 : (-7 : Int) ≤ x3.toInt ∧ x3.toInt ≤ (7 : Int)) (r_x4 : (-7 : Int) ≤ x4.toInt ∧ x4.toInt ≤ (7 : Int)) (r_x5 : (0 : Int) ≤ x5.toInt ∧ x5.toInt ≤ (7 : Int)) (r_t0 : (0 : Int) ≤ t0.toInt ∧ t0.toInt ≤ (7 : Int)) (q0 : 0 ≤ x1.toInt % 8 + x3.toInt ∧ x1.toInt % 8 + x3.toInt ≤ 7 ∧ 0 ≤ x1.toInt / 8 + x4.toInt ∧ x1.toInt / 8 + x4.toInt ≤ 7) (q1 : t0.toInt = x3.toInt ∨ t0.toInt = -x3.toInt) : Ok (f_X0_attacks_105 x0 x1 x3 x4 x5 t0 S) (fun o => o.2 = S ∧ ((0 : Int) ≤ o.1.toInt ∧ o.1.toInt ≤ (1 : Int))) := by
  unfold f_X0_attacks_105
  refine ok_if (fun c62 => ?_) (fun c62 => ?_)
  ·
    replace c62 := ti_leP (a := (0 : Int32)) (b := x4) c62 (show (0 : Int32).toInt = 0 from rfl) rfl
    exact t_f_X0_attacks_120 (S := S)  (x0 := x0) (x1 := x1) (x3 := x3) (x4 := x4) (x5 := x5) (x6 := t0) (t0 := x4) hT r_x0 r_x1 r_x3 r_x4 r_x5 r_t0 (by omega) q0 (by omega)
  ·
    replace c62 := ti_leN (a := (0 : Int32)) (b := x4) c62 (show (0 : Int32).toInt = 0 from rfl) rfl
    refine ok_bnd (fun v1 e63 => ?_)
    have t_v1 : v1.toInt = -x4.toInt := ti_neg e63 rfl (by omega)
    exact t_f_X0_attacks_120 (S := S)  (x0 := x0) (x1 := x1) (x3 := x3) (x4 := x4) (x5 := x5) (x6 := t0) (t0 := v1) hT r_x0 r_x1 r_x3 r_x4 r_x5 r_t0 (by omega) q0 (by omega)
theorem t_f_X0_attacks_54 {S : ZS} {x3 : Int32} {t0 : Int32} {t1 : Int32} (hT : ZT S) (r_x3 : (-7 : Int) ≤ x3.toInt ∧ x3.toInt ≤ (7 : Int)) (r_t0 : (-1 : Int) ≤ t0.toInt ∧ t0.toInt ≤ (1 : Int)) : Ok (f_X0_attacks_54 x3 t0 t1 S) (fun o => o.2 = S ∧ ((0 : Int) ≤ o.1.toInt ∧ o.1.toInt ≤ (1 : Int))) := by
  unfold f_X0_attacks_54
  refine ok_if (fun c64 => ?_) (fun c64 => ?_)
  ·
    replace c64 := ti_eqP (a := t1) (b := t0) c64 rfl rfl
    refine ok_bnd (fun v1 e65 => ?_)
    have t_v1 := ti_sq e65 (by omega) (by omega)
    refine ok_if (fun c66 => ?_) (fun c66 => ?_)
    ·
      replace c66 := ti_eqP (a := v1) (b := (1 : Int32)) c66 rfl (show (1 : Int32).toInt = 1 from rfl)
      unfold f_X0_attacks_69
      refine ok_chk (by decide) ?_
      exact ok_ret ⟨rfl, (show (0 : Int) ≤ (1 : Int32).toInt ∧ (1 : Int32).toInt ≤ (1 : Int) from (by decide))⟩
    ·
      replace c66 := ti_eqN (a := v1) (b := (1 : Int32)) c66 rfl (show (1 : Int32).toInt = 1 from rfl)
      unfold f_X0_attacks_68
      unfold f_X0_attacks_69
      refine ok_chk (by decide) ?_
      exact ok_ret ⟨rfl, (show (0 : Int) ≤ (0 : Int32).toInt ∧ (0 : Int32).toInt ≤ (1 : Int) from (by decide))⟩
  ·
    replace c64 := ti_eqN (a := t1) (b := t0) c64 rfl rfl
    unfold f_X0_attacks_68
    unfold f_X0_attacks_69
    refine ok_chk (by decide) ?_
    exact ok_ret ⟨rfl, (show (0 : Int) ≤ (0 : Int32).toInt ∧ (0 : Int32).toInt ≤ (1 : Int) from (by decide))⟩
theorem t_f_X0_attacks_0 {S : ZS} {x0 : Nat} {x1 : Int32} {x2 : Int32} (hT : ZT S) (r_x0 : zK S x0 = 0) (r_x1 : (0 : Int) ≤ x1.toInt ∧ x1.toInt ≤ (63 : Int)) (r_x2 : (0 : Int) ≤ x2.toInt ∧ x2.toInt ≤ (63 : Int)) : Ok (f_X0_attacks_0 x0 x1 x2 S) (fun o => o.2 = S ∧ ((0 : Int) ≤ o.1.toInt ∧ o.1.toInt ≤ (1 : Int))) := by
  unfold f_X0_attacks_0
  refine ok_bnd (fun v1 e67 => ?_)
  have t_v1 : v1.toInt = x2.toInt % 8 := b_and7 e67 (by omega)
  refine ok_bnd (fun v2 e68 => ?_)
  have t_v2 : v2.toInt = x1.toInt % 8 := b_and7 e68 (by omega)
  refine ok_bnd (fun v3 e69 => ?_)
  have t_v3 : v3.toInt = v1.toInt - v2.toInt := ti_sub e69 rfl rfl (by omega) (by omega)
  refine ok_bnd (fun v4 e70 => ?_)
  have t_v4 : v4.toInt = x2.toInt / 8 := b_sh3 e70 (by omega)
  refine ok_bnd (fun v5 e71 => ?_)
  have t_v5 : v5.toInt = x1.toInt / 8 := b_sh3 e71 (by omega)
  refine ok_bnd (fun v6 e72 => ?_)
  have t_v6 : v6.toInt = v4.toInt - v5.toInt := ti_sub e72 rfl rfl (by omega) (by omega)
  refine ok_chk r_x0 ?_
  obtain ⟨b7, p_b7, k_b7, n_b7⟩ := T_0_0 hT r_x0
  refine ok_calR p_b7 ?_
  refine ok_chk k_b7 ?_
  refine ok_chk (ti_inN (v := x1) (n := 64) n_b7 (by omega) (by omega)) ?_
  refine ok_bnd (fun v8 e73 => ?_)
  refine ok_bnd (fun v9 e74 => ?_)
  have t_v9 := ti_and e74 (show (7 : Int32).toBitVec.toNat = 7 from rfl) (by decide)
  refine ok_if (fun c75 => ?_) (fun c75 => ?_)
  ·
    replace c75 := ti_eqP (a := v9) (b := (1 : Int32)) c75 rfl (show (1 : Int32).toInt = 1 from rfl)
    refine ok_chk r_x0 ?_
    obtain ⟨b14, p_b14, k_b14, n_b14⟩ := T_0_0 hT r_x0
    refine ok_calR p_b14 ?_
    refine ok_chk k_b14 ?_
    refine ok_chk (ti_inN (v := x1) (n := 64) n_b14 (by omega) (by omega)) ?_
    refine ok_bnd (fun v15 e76 => ?_)
    refine ok_if (fun c77 => ?_) (fun c77 => ?_)
    ·
      replace c77 := ti_leP (a := (8 : Int32)) (b := v15) c77 (show (8 : Int32).toInt = 8 from rfl) rfl
      exact t_f_X0_attacks_54 (S := S)  (x3 := v3) (t0 := (-1 : Int32)) (t1 := v6) hT (by omega) (by decide)
    ·
      replace c77 := ti_leN (a := (8 : Int32)) (b := v15) c77 (show (8 : Int32).toInt = 8 from rfl) rfl
      exact t_f_X0_attacks_54 (S := S)  (x3 := v3) (t0 := (1 : Int32)) (t1 := v6) hT (by omega) (by decide)
  ·
    replace c75 := ti_eqN (a := v9) (b := (1 : Int32)) c75 rfl (show (1 : Int32).toInt = 1 from rfl)
    refine ok_if (fun c78 => ?_) (fun c78 => ?_)
    ·
      replace c78 := ti_eqP (a := v9) (b := (2 : Int32)) c78 rfl (show (2 : Int32).toInt = 2 from rfl)
      refine ok_bnd (fun v11 e79 => ?_)
      have t_v11 := ti_sq e79 (by omega) (by omega)
      refine ok_bnd (fun v12 e80 => ?_)
      have t_v12 := ti_sq e80 (by omega) (by omega)
      refine ok_bnd (fun v13 e81 => ?_)
      have t_v13 : v13.toInt = v11.toInt + v12.toInt := ti_add e81 rfl rfl (by omega) (by omega)
      refine ok_if (fun c82 => ?_) (fun c82 => ?_)
      ·
        replace c82 := ti_eqP (a := v13) (b := (5 : Int32)) c82 rfl (show (5 : Int32).toInt = 5 from rfl)
        unfold f_X0_attacks_94
        refine ok_chk (by decide) ?_
        exact ok_ret ⟨rfl, (show (0 : Int) ≤ (1 : Int32).toInt ∧ (1 : Int32).toInt ≤ (1 : Int) from (by decide))⟩
      ·
        replace c82 := ti_eqN (a := v13) (b := (5 : Int32)) c82 rfl (show (5 : Int32).toInt = 5 from rfl)
        unfold f_X0_attacks_94
        refine ok_chk (by decide) ?_
        exact ok_ret ⟨rfl, (show (0 : Int) ≤ (0 : Int32).toInt ∧ (0 : Int32).toInt ≤ (1 : Int) from (by decide))⟩
    ·
      replace c78 := ti_eqN (a := v9) (b := (2 : Int32)) c78 rfl (show (2 : Int32).toInt = 2 from rfl)
      refine ok_if (fun c83 => ?_) (fun c83 => ?_)
      ·
        replace c83 := ti_leP (a := (0 : Int32)) (b := v3) c83 (show (0 : Int32).toInt = 0 from rfl) rfl
        exact t_f_X0_attacks_105 (S := S)  (x0 := x0) (x1 := x1) (x3 := v3) (x4 := v6) (x5 := v9) (t0 := v3) hT r_x0 r_x1 (by omega) (by omega) (by omega) (by omega) (by omega) (by omega)
      ·
        replace c83 := ti_leN (a := (0 : Int32)) (b := v3) c83 (show (0 : Int32).toInt = 0 from rfl) rfl
        refine ok_bnd (fun v10 e84 => ?_)
        have t_v10 : v10.toInt = -v3.toInt := ti_neg e84 rfl (by omega)
        exact t_f_X0_attacks_105 (S := S)  (x0 := x0) (x1 := x1) (x3 := v3) (x4 := v6) (x5 := v9) (t0 := v10) hT r_x0 r_x1 (by omega) (by omega) (by omega) (by omega) (by omega) (by omega)
theorem t_f_X0_attacks {S : ZS} {x0 : Nat} {x1 : Int32} {x2 : Int32} (hT : ZT S) (r_x0 : zK S x0 = 0) (r_x1 : (0 : Int) ≤ x1.toInt ∧ x1.toInt ≤ (63 : Int)) (r_x2 : (0 : Int) ≤ x2.toInt ∧ x2.toInt ≤ (63 : Int)) : Ok (f_X0_attacks x0 x1 x2 S) (fun o => o.2 = S ∧ ((0 : Int) ≤ o.1.toInt ∧ o.1.toInt ≤ (1 : Int))) := t_f_X0_attacks_0 hT r_x0 r_x1 r_x2
theorem t_f_X0_attacked_2s {S : ZS} {self2 : Nat → Int32 → Int32 → Int32 → ZS → Option (Int32 × ZS)} {N2 : Nat} (hself2 : ∀ (x0 : Nat) (x1 : Int32) (x2 : Int32) (x3 : Int32),  (zK S x0 = 0) → ((0 : Int) ≤ x1.toInt ∧ x1.toInt ≤ (63 : Int)) → ((0 : Int) ≤ x3.toInt ∧ x3.toInt ≤ (64 : Int)) → (65 - x3.toInt) < (N2 : Int) → Ok (self2 x0 x1 x2 x3 S) (fun o => o.2 = S ∧ ((0 : Int) ≤ o.1.toInt ∧ o.1.toInt ≤ (1 : Int)))) {x0 : Nat} {x1 : Int32} {x2 : Int32} {x3 : Int32} (hT : ZT S) (r_x0 : zK S x0 = 0) (r_x1 : (0 : Int) ≤ x1.toInt ∧ x1.toInt ≤ (63 : Int)) (r_x3 : (0 : Int) ≤ x3.toInt ∧ x3.toInt ≤ (64 : Int)) (m2 : (65 - x3.toInt) ≤ (N2 : Int)) : Ok (f_X0_attacked_2s self2 x0 x1 x2 x3 S) (fun o => o.2 = S ∧ ((0 : Int) ≤ o.1.toInt ∧ o.1.toInt ≤ (1 : Int))) := by
  unfold f_X0_attacked_2s
  refine ok_if (fun c85 => ?_) (fun c85 => ?_)
  ·
    replace c85 := ti_leP (a := (64 : Int32)) (b := x3) c85 (show (64 : Int32).toInt = 64 from rfl) rfl
    refine ok_chk (by decide) ?_
    exact ok_ret ⟨rfl, (show (0 : Int) ≤ (0 : Int32).toInt ∧ (0 : Int32).toInt ≤ (1 : Int) from (by decide))⟩
  ·
    replace c85 := ti_leN (a := (64 : Int32)) (b := x3) c85 (show (64 : Int32).toInt = 64 from rfl) rfl
    refine ok_chk r_x0 ?_
    obtain ⟨b1, p_b1, k_b1, n_b1⟩ := T_0_0 hT r_x0
    refine ok_calR p_b1 ?_
    refine ok_chk k_b1 ?_
    refine ok_chk (ti_inN (v := x3) (n := 64) n_b1 (by omega) (by omega)) ?_
    refine ok_bnd (fun v2 e86 => ?_)
    refine ok_if (fun c87 => ?_) (fun c87 => ?_)
    ·
      replace c87 := ti_eqP (a := v2) (b := (0 : Int32)) c87 rfl (show (0 : Int32).toInt = 0 from rfl)
      unfold f_X0_attacked_40
      refine ok_bnd (fun v1 e88 => ?_)
      have t_v1 : v1.toInt = x3.toInt + 1 := ti_add e88 rfl (show (1 : Int32).toInt = 1 from rfl) (by omega) (by omega)
      exact hself2 x0 x1 x2 v1  r_x0 r_x1 (by omega) (by omega)
    ·
      replace c87 := ti_eqN (a := v2) (b := (0 : Int32)) c87 rfl (show (0 : Int32).toInt = 0 from rfl)
      refine ok_chk r_x0 ?_
      obtain ⟨b3, p_b3, k_b3, n_b3⟩ := T_0_0 hT r_x0
      refine ok_calR p_b3 ?_
      refine ok_chk k_b3 ?_
      refine ok_chk (ti_inN (v := x3) (n := 64) n_b3 (by omega) (by omega)) ?_
      refine ok_bnd (fun v4 e89 => ?_)
      refine ok_bnd (fun v5 e90 => ?_)
      refine ok_if (fun c91 => ?_) (fun c91 => ?_)
      ·
        replace c91 := ti_eqP (a := v5) (b := x2) c91 rfl rfl
        refine ok_chk r_x0 ?_
        obtain ⟨r6, h_r6, p_r6⟩ := roz (t_f_X0_attacks (x0 := x0) (x1 := x3) (x2 := x1) hT r_x0 (by omega) r_x1)
        dsimp only at p_r6
        refine ok_calR h_r6 ?_
        refine ok_if (fun c92 => ?_) (fun c92 => ?_)
        ·
          replace c92 := ti_eqP (a := r6) (b := (0 : Int32)) c92 rfl (show (0 : Int32).toInt = 0 from rfl)
          unfold f_X0_attacked_40
          refine ok_bnd (fun v1 e93 => ?_)
          have t_v1 : v1.toInt = x3.toInt + 1 := ti_add e93 rfl (show (1 : Int32).toInt = 1 from rfl) (by omega) (by omega)
          exact hself2 x0 x1 x2 v1  r_x0 r_x1 (by omega) (by omega)
        ·
          replace c92 := ti_eqN (a := r6) (b := (0 : Int32)) c92 rfl (show (0 : Int32).toInt = 0 from rfl)
          refine ok_chk (by decide) ?_
          exact ok_ret ⟨rfl, (show (0 : Int) ≤ (1 : Int32).toInt ∧ (1 : Int32).toInt ≤ (1 : Int) from (by decide))⟩
      ·
        replace c91 := ti_eqN (a := v5) (b := x2) c91 rfl rfl
        unfold f_X0_attacked_40
        refine ok_bnd (fun v1 e94 => ?_)
        have t_v1 : v1.toInt = x3.toInt + 1 := ti_add e94 rfl (show (1 : Int32).toInt = 1 from rfl) (by omega) (by omega)
        exact hself2 x0 x1 x2 v1  r_x0 r_x1 (by omega) (by omega)
theorem t_f_X0_attacked_2 {S : ZS} (hT : ZT S) : ∀ (n : Nat) (x0 : Nat) (x1 : Int32) (x2 : Int32) (x3 : Int32),  (zK S x0 = 0) → ((0 : Int) ≤ x1.toInt ∧ x1.toInt ≤ (63 : Int)) → ((0 : Int) ≤ x3.toInt ∧ x3.toInt ≤ (64 : Int)) → (65 - x3.toInt) < (n : Int) → Ok (f_X0_attacked_2  n x0 x1 x2 x3 S) (fun o => o.2 = S ∧ ((0 : Int) ≤ o.1.toInt ∧ o.1.toInt ≤ (1 : Int))) := by
  intro n
  induction n with
  | zero => intro x0 x1 x2 x3 g0 g1 g2  hm; exfalso; omega
  | succ n ih =>
    intro x0 x1 x2 x3 g0 g1 g2  hm
    exact t_f_X0_attacked_2s (N2 := n)  ih hT g0 g1 g2  (by omega)
theorem t_f_X0_attacked_0 {S : ZS} {x0 : Nat} {x1 : Int32} {x2 : Int32} (hT : ZT S) (r_x0 : zK S x0 = 0) (r_x1 : (0 : Int) ≤ x1.toInt ∧ x1.toInt ≤ (63 : Int)) : Ok (f_X0_attacked_0 x0 x1 x2 S) (fun o => o.2 = S ∧ ((0 : Int) ≤ o.1.toInt ∧ o.1.toInt ≤ (1 : Int))) := by
  unfold f_X0_attacked_0
  exact t_f_X0_attacked_2  hT mFuel x0 x1 x2 (0 : Int32)  r_x0 r_x1 (by decide) (by show _ < ((200000 : Nat) : Int); have z0 : (0 : Int32).toInt = 0 := rfl; omega)
theorem t_f_X0_attacked {S : ZS} {x0 : Nat} {x1 : Int32} {x2 : Int32} (hT : ZT S) (r_x0 : zK S x0 = 0) (r_x1 : (0 : Int) ≤ x1.toInt ∧ x1.toInt ≤ (63 : Int)) : Ok (f_X0_attacked x0 x1 x2 S) (fun o => o.2 = S ∧ ((0 : Int) ≤ o.1.toInt ∧ o.1.toInt ≤ (1 : Int))) := t_f_X0_attacked_0 hT r_x0 r_x1
theorem t_f_X0_pawnReaches_62 {S : ZS} {x0 : Nat} {x1 : Int32} {x2 : Int32} {x3 : Int32} {t0 : Int32} {t1 : Int32} (hT : ZT S) (r_x0 : zK S x0 = 0) (r_x1 : (0 : Int) ≤ x1.toInt ∧ x1.toInt ≤ (63 : Int)) (r_x2 : (0 : Int) ≤ x2.toInt ∧ x2.toInt ≤ (63 : Int)) (r_x3 : (-8 : Int) ≤ x3.toInt ∧ x3.toInt ≤ (8 : Int)) (r_t0 : (1 : Int) ≤ t0.toInt ∧ t0.toInt ≤ (6 : Int)) (q0 : x2.toInt = x1.toInt + 2 * x3.toInt) : Ok (f_X0_pawnReaches_62 x0 x1 x2 x3 t0 t1 S) (fun o => o.2 = S ∧ ((0 : Int) ≤ o.1.toInt ∧ o.1.toInt ≤ (1 : Int))) := by
  unfold f_X0_pawnReaches_62
  refine ok_if (fun c95 => ?_) (fun c95 => ?_)
  ·
    replace c95 := ti_eqP (a := t1) (b := t0) c95 rfl rfl
    refine ok_chk r_x0 ?_
    obtain ⟨b1, p_b1, k_b1, n_b1⟩ := T_0_0 hT r_x0
    refine ok_calR p_b1 ?_
    refine ok_bnd (fun v2 e96 => ?_)
    have t_v2 : v2.toInt = x1.toInt + x3.toInt := ti_add e96 rfl rfl (by omega) (by omega)
    refine ok_chk k_b1 ?_
    refine ok_chk (ti_inN (v := v2) (n := 64) n_b1 (by omega) (by omega)) ?_
    refine ok_bnd (fun v3 e97 => ?_)
    refine ok_if (fun c98 => ?_) (fun c98 => ?_)
    ·
      replace c98 := ti_eqP (a := v3) (b := (0 : Int32)) c98 rfl (show (0 : Int32).toInt = 0 from rfl)
      refine ok_chk r_x0 ?_
      obtain ⟨b4, p_b4, k_b4, n_b4⟩ := T_0_0 hT r_x0
      refine ok_calR p_b4 ?_
      refine ok_chk k_b4 ?_
      refine ok_chk (ti_inN (v := x2) (n := 64) n_b4 (by omega) (by omega)) ?_
      refine ok_bnd (fun v5 e99 => ?_)
      refine ok_if (fun c100 => ?_) (fun c100 => ?_)
      ·
        replace c100 := ti_eqP (a := v5) (b := (0 : Int32)) c100 rfl (show (0 : Int32).toInt = 0 from rfl)
        unfold f_X0_pawnReaches_90
        refine ok_chk (by decide) ?_
        exact ok_ret ⟨rfl, (show (0 : Int) ≤ (1 : Int32).toInt ∧ (1 : Int32).toInt ≤ (1 : Int) from (by decide))⟩
      ·
        replace c100 := ti_eqN (a := v5) (b := (0 : Int32)) c100 rfl (show (0 : Int32).toInt = 0 from rfl)
        unfold f_X0_pawnReaches_89
        unfold f_X0_pawnReaches_90
        refine ok_chk (by decide) ?_
        exact ok_ret ⟨rfl, (show (0 : Int) ≤ (0 : Int32).toInt ∧ (0 : Int32).toInt ≤ (1 : Int) from (by decide))⟩
    ·
      replace c98 := ti_eqN (a := v3) (b := (0 : Int32)) c98 rfl (show (0 : Int32).toInt = 0 from rfl)
      unfold f_X0_pawnReaches_89
      unfold f_X0_pawnReaches_90
      refine ok_chk (by decide) ?_
      exact ok_ret ⟨rfl, (show (0 : Int) ≤ (0 : Int32).toInt ∧ (0 : Int32).toInt ≤ (1 : Int) from (by decide))⟩
  ·
    replace c95 := ti_eqN (a := t1) (b := t0) c95 rfl rfl
    unfold f_X0_pawnReaches_89
    unfold f_X0_pawnReaches_90
    refine ok_chk (by decide) ?_
    exact ok_ret ⟨rfl, (show (0 : Int) ≤ (0 : Int32).toInt ∧ (0 : Int32).toInt ≤ (1 : Int) from (by decide))⟩
theorem t_f_X0_pawnReaches_14 {S : ZS} {x0 : Nat} {x1 : Int32} {x2 : Int32} {t0 : Int32} (hT : ZT S) (r_x0 : zK S x0 = 0) (r_x1 : (0 : Int) ≤ x1.toInt ∧ x1.toInt ≤ (63 : Int)) (r_x2 : (0 : Int) ≤ x2.toInt ∧ x2.toInt ≤ (63 : Int)) (r_t0 : (-8 : Int) ≤ t0.toInt ∧ t0.toInt ≤ (8 : Int)) : Ok (f_X0_pawnReaches_14 x0 x1 x2 t0 S) (fun o => o.2 = S ∧ ((0 : Int) ≤ o.1.toInt ∧ o.1.toInt ≤ (1 : Int))) := by
  unfold f_X0_pawnReaches_14
  refine ok_bnd (fun v1 e101 => ?_)
  have t_v1 : v1.toInt = x1.toInt + t0.toInt := ti_add e101 rfl rfl (by omega) (by omega)
  refine ok_if (fun c102 => ?_) (fun c102 => ?_)
  ·
    replace c102 := ti_eqP (a := x2) (b := v1) c102 rfl rfl
    refine ok_chk r_x0 ?_
    obtain ⟨b8, p_b8, k_b8, n_b8⟩ := T_0_0 hT r_x0
    refine ok_calR p_b8 ?_
    refine ok_chk k_b8 ?_
    refine ok_chk (ti_inN (v := x2) (n := 64) n_b8 (by omega) (by omega)) ?_
    refine ok_bnd (fun v9 e103 => ?_)
    refine ok_if (fun c104 => ?_) (fun c104 => ?_)
    ·
      replace c104 := ti_eqP (a := v9) (b := (0 : Int32)) c104 rfl (show (0 : Int32).toInt = 0 from rfl)
      unfold f_X0_pawnReaches_36
      refine ok_chk (by decide) ?_
      exact ok_ret ⟨rfl, (show (0 : Int) ≤ (1 : Int32).toInt ∧ (1 : Int32).toInt ≤ (1 : Int) from (by decide))⟩
    ·
      replace c104 := ti_eqN (a := v9) (b := (0 : Int32)) c104 rfl (show (0 : Int32).toInt = 0 from rfl)
      unfold f_X0_pawnReaches_36
      refine ok_chk (by decide) ?_
      exact ok_ret ⟨rfl, (show (0 : Int) ≤ (0 : Int32).toInt ∧ (0 : Int32).toInt ≤ (1 : Int) from (by decide))⟩
  ·
    replace c102 := ti_eqN (a := x2) (b := v1) c102 rfl rfl
    refine ok_bnd (fun v2 e105 => ?_)
    have t_v2 : v2.toInt = 2 * t0.toInt := ti_mul e105 (show (2 : Int32).toInt = 2 from rfl) rfl (by omega) (by omega)
    refine ok_bnd (fun v3 e106 => ?_)
    have t_v3 : v3.toInt = x1.toInt + v2.toInt := ti_add e106 rfl rfl (by omega) (by omega)
    refine ok_if (fun c107 => ?_) (fun c107 => ?_)
    ·
      replace c107 := ti_eqP (a := x2) (b := v3) c107 rfl rfl
      refine ok_bnd (fun v7 e108 => ?_)
      have t_v7 : v7.toInt = x1.toInt / 8 := b_sh3 e108 (by omega)
      refine ok_chk r_x0 ?_
      have j109 := J_0_3 hT r_x0
      refine ok_if (fun c110 => ?_) (fun c110 => ?_)
      ·
        replace c110 := ti_eqP (a := (zI S 3 x0)) (b := (0 : Int32)) c110 rfl (show (0 : Int32).toInt = 0 from rfl)
        exact t_f_X0_pawnReaches_62 (S := S)  (x0 := x0) (x1 := x1) (x2 := x2) (x3 := t0) (t0 := (1 : Int32)) (t1 := v7) hT r_x0 r_x1 r_x2 r_t0 (by decide) (by have z0 : (1 : Int32).toInt = 1 := rfl; omega)
      ·
        replace c110 := ti_eqN (a := (zI S 3 x0)) (b := (0 : Int32)) c110 rfl (show (0 : Int32).toInt = 0 from rfl)
        exact t_f_X0_pawnReaches_62 (S := S)  (x0 := x0) (x1 := x1) (x2 := x2) (x3 := t0) (t0 := (6 : Int32)) (t1 := v7) hT r_x0 r_x1 r_x2 r_t0 (by decide) (by have z0 : (6 : Int32).toInt = 6 := rfl; omega)
    ·
      replace c107 := ti_eqN (a := x2) (b := v3) c107 rfl rfl
      refine ok_chk r_x0 ?_
      obtain ⟨r4, h_r4, p_r4⟩ := roz (t_f_X0_attacks (x0 := x0) (x1 := x1) (x2 := x2) hT r_x0 r_x1 r_x2)
      dsimp only at p_r4
      refine ok_calR h_r4 ?_
      refine ok_if (fun c111 => ?_) (fun c111 => ?_)
      ·
        replace c111 := ti_eqP (a := r4) (b := (0 : Int32)) c111 rfl (show (0 : Int32).toInt = 0 from rfl)
        unfold f_X0_pawnReaches_121
        unfold f_X0_pawnReaches_122
        refine ok_chk (by decide) ?_
        exact ok_ret ⟨rfl, (show (0 : Int) ≤ (0 : Int32).toInt ∧ (0 : Int32).toInt ≤ (1 : Int) from (by decide))⟩
      ·
        replace c111 := ti_eqN (a := r4) (b := (0 : Int32)) c111 rfl (show (0 : Int32).toInt = 0 from rfl)
        refine ok_chk r_x0 ?_
        obtain ⟨b5, p_b5, k_b5, n_b5⟩ := T_0_0 hT r_x0
        refine ok_calR p_b5 ?_
        refine ok_chk k_b5 ?_
        refine ok_chk (ti_inN (v := x2) (n := 64) n_b5 (by omega) (by omega)) ?_
        refine ok_bnd (fun v6 e112 => ?_)
        refine ok_if (fun c113 => ?_) (fun c113 => ?_)
        ·
          replace c113 := ti_eqP (a := v6) (b := (0 : Int32)) c113 rfl (show (0 : Int32).toInt = 0 from rfl)
          refine ok_chk r_x0 ?_
          have j114 := J_0_5 hT r_x0
          refine ok_if (fun c115 => ?_) (fun c115 => ?_)
          ·
            replace c115 := ti_eqP (a := x2) (b := (zI S 5 x0)) c115 rfl rfl
            unfold f_X0_pawnReaches_117
            unfold f_X0_pawnReaches_122
            refine ok_chk (by decide) ?_
            exact ok_ret ⟨rfl, (show (0 : Int) ≤ (1 : Int32).toInt ∧ (1 : Int32).toInt ≤ (1 : Int) from (by decide))⟩
          ·
            replace c115 := ti_eqN (a := x2) (b := (zI S 5 x0)) c115 rfl rfl
            unfold f_X0_pawnReaches_121
            unfold f_X0_pawnReaches_122
            refine ok_chk (by decide) ?_
            exact ok_ret ⟨rfl, (show (0 : Int) ≤ (0 : Int32).toInt ∧ (0 : Int32).toInt ≤ (1 : Int) from (by decide))⟩
        ·
          replace c113 := ti_eqN (a := v6) (b := (0 : Int32)) c113 rfl (show (0 : Int32).toInt = 0 from rfl)
          unfold f_X0_pawnReaches_117
          unfold f_X0_pawnReaches_122
          refine ok_chk (by decide) ?_
          exact ok_ret ⟨rfl, (show (0 : Int) ≤ (1 : Int32).toInt ∧ (1 : Int32).toInt ≤ (1 : Int) from (by decide))⟩
theorem t_f_X0_pawnReaches_0 {S : ZS} {x0 : Nat} {x1 : Int32} {x2 : Int32} (hT : ZT S) (r_x0 : zK S x0 = 0) (r_x1 : (0 : Int) ≤ x1.toInt ∧ x1.toInt ≤ (63 : Int)) (r_x2 : (0 : Int) ≤ x2.toInt ∧ x2.toInt ≤ (63 : Int)) : Ok (f_X0_pawnReaches_0 x0 x1 x2 S) (fun o => o.2 = S ∧ ((0 : Int) ≤ o.1.toInt ∧ o.1.toInt ≤ (1 : Int))) := by
  unfold f_X0_pawnReaches_0
  refine ok_chk r_x0 ?_
  have j116 := J_0_3 hT r_x0
  refine ok_if (fun c117 => ?_) (fun c117 => ?_)
  ·
    replace c117 := ti_eqP (a := (zI S 3 x0)) (b := (0 : Int32)) c117 rfl (show (0 : Int32).toInt = 0 from rfl)
    exact t_f_X0_pawnReaches_14 (S := S)  (x0 := x0) (x1 := x1) (x2 := x2) (t0 := (8 : Int32)) hT r_x0 r_x1 r_x2 (by decide)
  ·
    replace c117 := ti_eqN (a := (zI S 3 x0)) (b := (0 : Int32)) c117 rfl (show (0 : Int32).toInt = 0 from rfl)
    exact t_f_X0_pawnReaches_14 (S := S)  (x0 := x0) (x1 := x1) (x2 := x2) (t0 := (-8 : Int32)) hT r_x0 r_x1 r_x2 (by decide)
theorem t_f_X0_pawnReaches {S : ZS} {x0 : Nat} {x1 : Int32} {x2 : Int32} (hT : ZT S) (r_x0 : zK S x0 = 0) (r_x1 : (0 : Int) ≤ x1.toInt ∧ x1.toInt ≤ (63 : Int)) (r_x2 : (0 : Int) ≤ x2.toInt ∧ x2.toInt ≤ (63 : Int)) : Ok (f_X0_pawnReaches x0 x1 x2 S) (fun o => o.2 = S ∧ ((0 : Int) ≤ o.1.toInt ∧ o.1.toInt ≤ (1 : Int))) := t_f_X0_pawnReaches_0 hT r_x0 r_x1 r_x2
theorem t_f_X0_castles_0 {S : ZS} {x0 : Nat} {x1 : Int32} {x2 : Int32} (hT : ZT S) (r_x0 : zK S x0 = 0) (r_x1 : (0 : Int) ≤ x1.toInt ∧ x1.toInt ≤ (63 : Int)) (r_x2 : (0 : Int) ≤ x2.toInt ∧ x2.toInt ≤ (63 : Int)) : Ok (f_X0_castles_0 x0 x1 x2 S) (fun o => o.2 = S ∧ ((0 : Int) ≤ o.1.toInt ∧ o.1.toInt ≤ (1 : Int)) ∧ ((o.1.toInt = 1 → x2.toInt = x1.toInt + 2 ∨ x2.toInt = x1.toInt - 2))) := by
  unfold f_X0_castles_0
  refine ok_chk r_x0 ?_
  obtain ⟨b1, p_b1, k_b1, n_b1⟩ := T_0_0 hT r_x0
  refine ok_calR p_b1 ?_
  refine ok_chk k_b1 ?_
  refine ok_chk (ti_inN (v := x1) (n := 64) n_b1 (by omega) (by omega)) ?_
  refine ok_bnd (fun v2 e118 => ?_)
  refine ok_bnd (fun v3 e119 => ?_)
  have t_v3 := ti_and e119 (show (7 : Int32).toBitVec.toNat = 7 from rfl) (by decide)
  refine ok_if (fun c120 => ?_) (fun c120 => ?_)
  ·
    replace c120 := ti_eqP (a := v3) (b := (6 : Int32)) c120 rfl (show (6 : Int32).toInt = 6 from rfl)
    refine ok_bnd (fun v4 e121 => ?_)
    have t_v4 : v4.toInt = x1.toInt / 8 := b_sh3 e121 (by omega)
    refine ok_bnd (fun v5 e122 => ?_)
    have t_v5 : v5.toInt = x2.toInt / 8 := b_sh3 e122 (by omega)
    refine ok_if (fun c123 => ?_) (fun c123 => ?_)
    ·
      replace c123 := ti_eqP (a := v4) (b := v5) c123 rfl rfl
      refine ok_bnd (fun v6 e124 => ?_)
      have t_v6 : v6.toInt = x1.toInt + 2 := ti_add e124 rfl (show (2 : Int32).toInt = 2 from rfl) (by omega) (by omega)
      refine ok_if (fun c125 => ?_) (fun c125 => ?_)
      ·
        replace c125 := ti_eqP (a := x2) (b := v6) c125 rfl rfl
        unfold f_X0_castles_37
        unfold f_X0_castles_42
        refine ok_chk (by decide) ?_
        exact ok_ret ⟨rfl, (show (0 : Int) ≤ (1 : Int32).toInt ∧ (1 : Int32).toInt ≤ (1 : Int) from (by decide)), (by show ((1 : Int32).toInt = 1 → x2.toInt = x1.toInt + 2 ∨ x2.toInt = x1.toInt - 2); have z : (1 : Int32).toInt = 1 := rfl; omega)⟩
      ·
        replace c125 := ti_eqN (a := x2) (b := v6) c125 rfl rfl
        refine ok_bnd (fun v7 e126 => ?_)
        have t_v7 : v7.toInt = x1.toInt - 2 := ti_sub e126 rfl (show (2 : Int32).toInt = 2 from rfl) (by omega) (by omega)
        refine ok_if (fun c127 => ?_) (fun c127 => ?_)
        ·
          replace c127 := ti_eqP (a := x2) (b := v7) c127 rfl rfl
          unfold f_X0_castles_37
          unfold f_X0_castles_42
          refine ok_chk (by decide) ?_
          exact ok_ret ⟨rfl, (show (0 : Int) ≤ (1 : Int32).toInt ∧ (1 : Int32).toInt ≤ (1 : Int) from (by decide)), (by show ((1 : Int32).toInt = 1 → x2.toInt = x1.toInt + 2 ∨ x2.toInt = x1.toInt - 2); have z : (1 : Int32).toInt = 1 := rfl; omega)⟩
        ·
          replace c127 := ti_eqN (a := x2) (b := v7) c127 rfl rfl
          unfold f_X0_castles_41
          unfold f_X0_castles_42
          refine ok_chk (by decide) ?_
          exact ok_ret ⟨rfl, (show (0 : Int) ≤ (0 : Int32).toInt ∧ (0 : Int32).toInt ≤ (1 : Int) from (by decide)), (by show ((0 : Int32).toInt = 1 → x2.toInt = x1.toInt + 2 ∨ x2.toInt = x1.toInt - 2); have z : (0 : Int32).toInt = 0 := rfl; omega)⟩
    ·
      replace c123 := ti_eqN (a := v4) (b := v5) c123 rfl rfl
      unfold f_X0_castles_41
      unfold f_X0_castles_42
      refine ok_chk (by decide) ?_
      exact ok_ret ⟨rfl, (show (0 : Int) ≤ (0 : Int32).toInt ∧ (0 : Int32).toInt ≤ (1 : Int) from (by decide)), (by show ((0 : Int32).toInt = 1 → x2.toInt = x1.toInt + 2 ∨ x2.toInt = x1.toInt - 2); have z : (0 : Int32).toInt = 0 := rfl; omega)⟩
  ·
    replace c120 := ti_eqN (a := v3) (b := (6 : Int32)) c120 rfl (show (6 : Int32).toInt = 6 from rfl)
    unfold f_X0_castles_41
    unfold f_X0_castles_42
    refine ok_chk (by decide) ?_
    exact ok_ret ⟨rfl, (show (0 : Int) ≤ (0 : Int32).toInt ∧ (0 : Int32).toInt ≤ (1 : Int) from (by decide)), (by show ((0 : Int32).toInt = 1 → x2.toInt = x1.toInt + 2 ∨ x2.toInt = x1.toInt - 2); have z : (0 : Int32).toInt = 0 := rfl; omega)⟩
theorem t_f_X0_castles {S : ZS} {x0 : Nat} {x1 : Int32} {x2 : Int32} (hT : ZT S) (r_x0 : zK S x0 = 0) (r_x1 : (0 : Int) ≤ x1.toInt ∧ x1.toInt ≤ (63 : Int)) (r_x2 : (0 : Int) ≤ x2.toInt ∧ x2.toInt ≤ (63 : Int)) : Ok (f_X0_castles x0 x1 x2 S) (fun o => o.2 = S ∧ ((0 : Int) ≤ o.1.toInt ∧ o.1.toInt ≤ (1 : Int)) ∧ ((o.1.toInt = 1 → x2.toInt = x1.toInt + 2 ∨ x2.toInt = x1.toInt - 2))) := t_f_X0_castles_0 hT r_x0 r_x1 r_x2
theorem t_f_X0_castlingIsOpen_38 {S : ZS} {x0 : Nat} {x1 : Int32} {x2 : Int32} {x3 : Int32} {t0 : Int32} {t1 : Int32} (hT : ZT S) (r_x0 : zK S x0 = 0) (r_x1 : (0 : Int) ≤ x1.toInt ∧ x1.toInt ≤ (63 : Int)) (r_x2 : (0 : Int) ≤ x2.toInt ∧ x2.toInt ≤ (63 : Int)) (r_t0 : (4 : Int) ≤ t0.toInt ∧ t0.toInt ≤ (60 : Int)) (q0 : x2.toInt = x1.toInt + 2 ∨ x2.toInt = x1.toInt - 2) (q1 : t1.toInt = x1.toInt ∧ (t0.toInt = 4 ∨ t0.toInt = 60)) : Ok (f_X0_castlingIsOpen_38 x0 x1 x2 x3 t0 t1 S) (fun o => o.2 = S ∧ ((0 : Int) ≤ o.1.toInt ∧ o.1.toInt ≤ (1 : Int))) := by
  unfold f_X0_castlingIsOpen_38
  refine ok_if (fun c128 => ?_) (fun c128 => ?_)
  ·
    replace c128 := ti_eqP (a := t1) (b := t0) c128 rfl rfl
    refine ok_chk r_x0 ?_
    refine ok_bnd (fun v1 e129 => ?_)
    refine ok_if (fun c130 => ?_) (fun c130 => ?_)
    ·
      replace c130 := ti_eqP (a := v1) (b := (0 : Int32)) c130 rfl (show (0 : Int32).toInt = 0 from rfl)
      unfold f_X0_castlingIsOpen_50
      refine ok_chk (by decide) ?_
      exact ok_ret ⟨rfl, (show (0 : Int) ≤ (0 : Int32).toInt ∧ (0 : Int32).toInt ≤ (1 : Int) from (by decide))⟩
    ·
      replace c130 := ti_eqN (a := v1) (b := (0 : Int32)) c130 rfl (show (0 : Int32).toInt = 0 from rfl)
      refine ok_if (fun c131 => ?_) (fun c131 => ?_)
      ·
        replace c131 := ti_leP (a := x2) (b := x1) c131 rfl rfl
        refine ok_chk r_x0 ?_
        obtain ⟨b2, p_b2, k_b2, n_b2⟩ := T_0_0 hT r_x0
        refine ok_calR p_b2 ?_
        refine ok_bnd (fun v3 e132 => ?_)
        have t_v3 : v3.toInt = x1.toInt - 1 := ti_sub e132 rfl (show (1 : Int32).toInt = 1 from rfl) (by omega) (by omega)
        refine ok_chk k_b2 ?_
        refine ok_chk (ti_inN (v := v3) (n := 64) n_b2 (by omega) (by omega)) ?_
        refine ok_bnd (fun v4 e133 => ?_)
        refine ok_if (fun c134 => ?_) (fun c134 => ?_)
        ·
          replace c134 := ti_eqP (a := v4) (b := (0 : Int32)) c134 rfl (show (0 : Int32).toInt = 0 from rfl)
          refine ok_chk r_x0 ?_
          obtain ⟨b5, p_b5, k_b5, n_b5⟩ := T_0_0 hT r_x0
          refine ok_calR p_b5 ?_
          refine ok_bnd (fun v6 e135 => ?_)
          have t_v6 : v6.toInt = x1.toInt - 2 := ti_sub e135 rfl (show (2 : Int32).toInt = 2 from rfl) (by omega) (by omega)
          refine ok_chk k_b5 ?_
          refine ok_chk (ti_inN (v := v6) (n := 64) n_b5 (by omega) (by omega)) ?_
          refine ok_bnd (fun v7 e136 => ?_)
          refine ok_if (fun c137 => ?_) (fun c137 => ?_)
          ·
            replace c137 := ti_eqP (a := v7) (b := (0 : Int32)) c137 rfl (show (0 : Int32).toInt = 0 from rfl)
            refine ok_chk r_x0 ?_
            obtain ⟨b8, p_b8, k_b8, n_b8⟩ := T_0_0 hT r_x0
            refine ok_calR p_b8 ?_
            refine ok_bnd (fun v9 e138 => ?_)
            have t_v9 : v9.toInt = x1.toInt - 3 := ti_sub e138 rfl (show (3 : Int32).toInt = 3 from rfl) (by omega) (by omega)
            refine ok_chk k_b8 ?_
            refine ok_chk (ti_inN (v := v9) (n := 64) n_b8 (by omega) (by omega)) ?_
            refine ok_bnd (fun v10 e139 => ?_)
            refine ok_if (fun c140 => ?_) (fun c140 => ?_)
            ·
              replace c140 := ti_eqP (a := v10) (b := (0 : Int32)) c140 rfl (show (0 : Int32).toInt = 0 from rfl)
              unfold f_X0_castlingIsOpen_123
              refine ok_chk (by decide) ?_
              exact ok_ret ⟨rfl, (show (0 : Int) ≤ (1 : Int32).toInt ∧ (1 : Int32).toInt ≤ (1 : Int) from (by decide))⟩
            ·
              replace c140 := ti_eqN (a := v10) (b := (0 : Int32)) c140 rfl (show (0 : Int32).toInt = 0 from rfl)
              unfold f_X0_castlingIsOpen_122
              unfold f_X0_castlingIsOpen_123
              refine ok_chk (by decide) ?_
              exact ok_ret ⟨rfl, (show (0 : Int) ≤ (0 : Int32).toInt ∧ (0 : Int32).toInt ≤ (1 : Int) from (by decide))⟩
          ·
            replace c137 := ti_eqN (a := v7) (b := (0 : Int32)) c137 rfl (show (0 : Int32).toInt = 0 from rfl)
            unfold f_X0_castlingIsOpen_122
            unfold f_X0_castlingIsOpen_123
            refine ok_chk (by decide) ?_
            exact ok_ret ⟨rfl, (show (0 : Int) ≤ (0 : Int32).toInt ∧ (0 : Int32).toInt ≤ (1 : Int) from (by decide))⟩
        ·
          replace c134 := ti_eqN (a := v4) (b := (0 : Int32)) c134 rfl (show (0 : Int32).toInt = 0 from rfl)
          unfold f_X0_castlingIsOpen_122
          unfold f_X0_castlingIsOpen_123
          refine ok_chk (by decide) ?_
          exact ok_ret ⟨rfl, (show (0 : Int) ≤ (0 : Int32).toInt ∧ (0 : Int32).toInt ≤ (1 : Int) from (by decide))⟩
      ·
        replace c131 := ti_leN (a := x2) (b := x1) c131 rfl rfl
        refine ok_chk r_x0 ?_
        obtain ⟨b11, p_b11, k_b11, n_b11⟩ := T_0_0 hT r_x0
        refine ok_calR p_b11 ?_
        refine ok_bnd (fun v12 e141 => ?_)
        have t_v12 : v12.toInt = x1.toInt + 1 := ti_add e141 rfl (show (1 : Int32).toInt = 1 from rfl) (by omega) (by omega)
        refine ok_chk k_b11 ?_
        refine ok_chk (ti_inN (v := v12) (n := 64) n_b11 (by omega) (by omega)) ?_
        refine ok_bnd (fun v13 e142 => ?_)
        refine ok_if (fun c143 => ?_) (fun c143 => ?_)
        ·
          replace c143 := ti_eqP (a := v13) (b := (0 : Int32)) c143 rfl (show (0 : Int32).toInt = 0 from rfl)
          refine ok_chk r_x0 ?_
          obtain ⟨b14, p_b14, k_b14, n_b14⟩ := T_0_0 hT r_x0
          refine ok_calR p_b14 ?_
          refine ok_bnd (fun v15 e144 => ?_)
          have t_v15 : v15.toInt = x1.toInt + 2 := ti_add e144 rfl (show (2 : Int32).toInt = 2 from rfl) (by omega) (by omega)
          refine ok_chk k_b14 ?_
          refine ok_chk (ti_inN (v := v15) (n := 64) n_b14 (by omega) (by omega)) ?_
          refine ok_bnd (fun v16 e145 => ?_)
          refine ok_if (fun c146 => ?_) (fun c146 => ?_)
          ·
            replace c146 := ti_eqP (a := v16) (b := (0 : Int32)) c146 rfl (show (0 : Int32).toInt = 0 from rfl)
            unfold f_X0_castlingIsOpen_84
            refine ok_chk (by decide) ?_
            exact ok_ret ⟨rfl, (show (0 : Int) ≤ (1 : Int32).toInt ∧ (1 : Int32).toInt ≤ (1 : Int) from (by decide))⟩
          ·
            replace c146 := ti_eqN (a := v16) (b := (0 : Int32)) c146 rfl (show (0 : Int32).toInt = 0 from rfl)
            unfold f_X0_castlingIsOpen_83
            unfold f_X0_castlingIsOpen_84
            refine ok_chk (by decide) ?_
            exact ok_ret ⟨rfl, (show (0 : Int) ≤ (0 : Int32).toInt ∧ (0 : Int32).toInt ≤ (1 : Int) from (by decide))⟩
        ·
          replace c143 := ti_eqN (a := v13) (b := (0 : Int32)) c143 rfl (show (0 : Int32).toInt = 0 from rfl)
          unfold f_X0_castlingIsOpen_83
          unfold f_X0_castlingIsOpen_84
          refine ok_chk (by decide) ?_
          exact ok_ret ⟨rfl, (show (0 : Int) ≤ (0 : Int32).toInt ∧ (0 : Int32).toInt ≤ (1 : Int) from (by decide))⟩
  ·
    replace c128 := ti_eqN (a := t1) (b := t0) c128 rfl rfl
    unfold f_X0_castlingIsOpen_50
    refine ok_chk (by decide) ?_
    exact ok_ret ⟨rfl, (show (0 : Int) ≤ (0 : Int32).toInt ∧ (0 : Int32).toInt ≤ (1 : Int) from (by decide))⟩
theorem t_f_X0_castlingIsOpen_22 {S : ZS} {x0 : Nat} {x1 : Int32} {x2 : Int32} {t0 : Int32} {t1 : Int32} (hT : ZT S) (r_x0 : zK S x0 = 0) (r_x1 : (0 : Int) ≤ x1.toInt ∧ x1.toInt ≤ (63 : Int)) (r_x2 : (0 : Int) ≤ x2.toInt ∧ x2.toInt ≤ (63 : Int)) (q0 : x2.toInt = x1.toInt + 2 ∨ x2.toInt = x1.toInt - 2) : Ok (f_X0_castlingIsOpen_22 x0 x1 x2 t0 t1 S) (fun o => o.2 = S ∧ ((0 : Int) ≤ o.1.toInt ∧ o.1.toInt ≤ (1 : Int))) := by
  unfold f_X0_castlingIsOpen_22
  refine ok_bnd (fun v1 e147 => ?_)
  refine ok_chk r_x0 ?_
  have j148 := J_0_3 hT r_x0
  refine ok_if (fun c149 => ?_) (fun c149 => ?_)
  ·
    replace c149 := ti_eqP (a := (zI S 3 x0)) (b := (0 : Int32)) c149 rfl (show (0 : Int32).toInt = 0 from rfl)
    exact t_f_X0_castlingIsOpen_38 (S := S)  (x0 := x0) (x1 := x1) (x2 := x2) (x3 := v1) (t0 := (4 : Int32)) (t1 := x1) hT r_x0 r_x1 r_x2 (by decide) q0 (by have z0 : (4 : Int32).toInt = 4 := rfl; omega)
  ·
    replace c149 := ti_eqN (a := (zI S 3 x0)) (b := (0 : Int32)) c149 rfl (show (0 : Int32).toInt = 0 from rfl)
    exact t_f_X0_castlingIsOpen_38 (S := S)  (x0 := x0) (x1 := x1) (x2 := x2) (x3 := v1) (t0 := (60 : Int32)) (t1 := x1) hT r_x0 r_x1 r_x2 (by decide) q0 (by have z0 : (60 : Int32).toInt = 60 := rfl; omega)
theorem t_f_X0_castlingIsOpen_10 {S : ZS} {x0 : Nat} {x1 : Int32} {x2 : Int32} {t0 : Int32} (hT : ZT S) (r_x0 : zK S x0 = 0) (r_x1 : (0 : Int) ≤ x1.toInt ∧ x1.toInt ≤ (63 : Int)) (r_x2 : (0 : Int) ≤ x2.toInt ∧ x2.toInt ≤ (63 : Int)) (q0 : x2.toInt = x1.toInt + 2 ∨ x2.toInt = x1.toInt - 2) : Ok (f_X0_castlingIsOpen_10 x0 x1 x2 t0 S) (fun o => o.2 = S ∧ ((0 : Int) ≤ o.1.toInt ∧ o.1.toInt ≤ (1 : Int))) := by
  unfold f_X0_castlingIsOpen_10
  refine ok_chk r_x0 ?_
  have j150 := J_0_3 hT r_x0
  refine ok_if (fun c151 => ?_) (fun c151 => ?_)
  ·
    replace c151 := ti_eqP (a := (zI S 3 x0)) (b := (0 : Int32)) c151 rfl (show (0 : Int32).toInt = 0 from rfl)
    exact t_f_X0_castlingIsOpen_22 (S := S)  (x0 := x0) (x1 := x1) (x2 := x2) (t0 := (0 : Int32)) (t1 := t0) hT r_x0 r_x1 r_x2 q0
  ·
    replace c151 := ti_eqN (a := (zI S 3 x0)) (b := (0 : Int32)) c151 rfl (show (0 : Int32).toInt = 0 from rfl)
    exact t_f_X0_castlingIsOpen_22 (S := S)  (x0 := x0) (x1 := x1) (x2 := x2) (t0 := (2 : Int32)) (t1 := t0) hT r_x0 r_x1 r_x2 q0
theorem t_f_X0_castlingIsOpen_0 {S : ZS} {x0 : Nat} {x1 : Int32} {x2 : Int32} (hT : ZT S) (r_x0 : zK S x0 = 0) (r_x1 : (0 : Int) ≤ x1.toInt ∧ x1.toInt ≤ (63 : Int)) (r_x2 : (0 : Int) ≤ x2.toInt ∧ x2.toInt ≤ (63 : Int)) (q0 : x2.toInt = x1.toInt + 2 ∨ x2.toInt = x1.toInt - 2) : Ok (f_X0_castlingIsOpen_0 x0 x1 x2 S) (fun o => o.2 = S ∧ ((0 : Int) ≤ o.1.toInt ∧ o.1.toInt ≤ (1 : Int))) := by
  unfold f_X0_castlingIsOpen_0
  refine ok_if (fun c152 => ?_) (fun c152 => ?_)
  ·
    replace c152 := ti_leP (a := x2) (b := x1) c152 rfl rfl
    exact t_f_X0_castlingIsOpen_10 (S := S)  (x0 := x0) (x1 := x1) (x2 := x2) (t0 := (2 : Int32)) hT r_x0 r_x1 r_x2 q0
  ·
    replace c152 := ti_leN (a := x2) (b := x1) c152 rfl rfl
    exact t_f_X0_castlingIsOpen_10 (S := S)  (x0 := x0) (x1 := x1) (x2 := x2) (t0 := (1 : Int32)) hT r_x0 r_x1 r_x2 q0
theorem t_f_X0_castlingIsOpen {S : ZS} {x0 : Nat} {x1 : Int32} {x2 : Int32} (hT : ZT S) (r_x0 : zK S x0 = 0) (r_x1 : (0 : Int) ≤ x1.toInt ∧ x1.toInt ≤ (63 : Int)) (r_x2 : (0 : Int) ≤ x2.toInt ∧ x2.toInt ≤ (63 : Int)) (q0 : x2.toInt = x1.toInt + 2 ∨ x2.toInt = x1.toInt - 2) : Ok (f_X0_castlingIsOpen x0 x1 x2 S) (fun o => o.2 = S ∧ ((0 : Int) ≤ o.1.toInt ∧ o.1.toInt ≤ (1 : Int))) := t_f_X0_castlingIsOpen_0 hT r_x0 r_x1 r_x2 q0
theorem t_f_X0_reaches_47 {S : ZS} {x0 : Nat} {x1 : Int32} {x2 : Int32} (hT : ZT S) (r_x0 : zK S x0 = 0) (r_x1 : (0 : Int) ≤ x1.toInt ∧ x1.toInt ≤ (63 : Int)) (r_x2 : (0 : Int) ≤ x2.toInt ∧ x2.toInt ≤ (63 : Int)) : Ok (f_X0_reaches_47 x0 x1 x2 S) (fun o => o.2 = S ∧ ((0 : Int) ≤ o.1.toInt ∧ o.1.toInt ≤ (1 : Int))) := by
  unfold f_X0_reaches_47
  refine ok_chk r_x0 ?_
  obtain ⟨r1, h_r1, p_r1⟩ := roz (t_f_X0_kindAt (x0 := x0) (x1 := x1) hT r_x0 r_x1)
  dsimp only at p_r1
  refine ok_calR h_r1 ?_
  refine ok_if (fun c153 => ?_) (fun c153 => ?_)
  ·
    replace c153 := ti_eqP (a := r1) (b := (1 : Int32)) c153 rfl (show (1 : Int32).toInt = 1 from rfl)
    refine ok_chk r_x0 ?_
    obtain ⟨r5, h_r5, p_r5⟩ := roz (t_f_X0_pawnReaches (x0 := x0) (x1 := x1) (x2 := x2) hT r_x0 r_x1 r_x2)
    dsimp only at p_r5
    refine ok_calR h_r5 ?_
    refine ok_chk (nar_b (v := r5) (by omega) (by omega)) ?_
    exact ok_ret ⟨rfl, (show (0 : Int) ≤ r5.toInt ∧ r5.toInt ≤ (1 : Int) from (by omega))⟩
  ·
    replace c153 := ti_eqN (a := r1) (b := (1 : Int32)) c153 rfl (show (1 : Int32).toInt = 1 from rfl)
    refine ok_chk r_x0 ?_
    obtain ⟨r2, h_r2, p_r2⟩ := roz (t_f_X0_attacks (x0 := x0) (x1 := x1) (x2 := x2) hT r_x0 r_x1 r_x2)
    dsimp only at p_r2
    refine ok_calR h_r2 ?_
    refine ok_if (fun c154 => ?_) (fun c154 => ?_)
    ·
      replace c154 := ti_eqP (a := r2) (b := (0 : Int32)) c154 rfl (show (0 : Int32).toInt = 0 from rfl)
      refine ok_chk r_x0 ?_
      obtain ⟨r3, h_r3, p_r3⟩ := roz (t_f_X0_castles (x0 := x0) (x1 := x1) (x2 := x2) hT r_x0 r_x1 r_x2)
      dsimp only at p_r3
      refine ok_calR h_r3 ?_
      refine ok_if (fun c155 => ?_) (fun c155 => ?_)
      ·
        replace c155 := ti_eqP (a := r3) (b := (0 : Int32)) c155 rfl (show (0 : Int32).toInt = 0 from rfl)
        unfold f_X0_reaches_94
        unfold f_X0_reaches_95
        refine ok_chk (by decide) ?_
        exact ok_ret ⟨rfl, (show (0 : Int) ≤ (0 : Int32).toInt ∧ (0 : Int32).toInt ≤ (1 : Int) from (by decide))⟩
      ·
        replace c155 := ti_eqN (a := r3) (b := (0 : Int32)) c155 rfl (show (0 : Int32).toInt = 0 from rfl)
        refine ok_chk r_x0 ?_
        obtain ⟨r4, h_r4, p_r4⟩ := roz (t_f_X0_castlingIsOpen (x0 := x0) (x1 := x1) (x2 := x2) hT r_x0 r_x1 r_x2 (by omega))
        dsimp only at p_r4
        refine ok_calR h_r4 ?_
        refine ok_if (fun c156 => ?_) (fun c156 => ?_)
        ·
          replace c156 := ti_eqP (a := r4) (b := (0 : Int32)) c156 rfl (show (0 : Int32).toInt = 0 from rfl)
          unfold f_X0_reaches_94
          unfold f_X0_reaches_95
          refine ok_chk (by decide) ?_
          exact ok_ret ⟨rfl, (show (0 : Int) ≤ (0 : Int32).toInt ∧ (0 : Int32).toInt ≤ (1 : Int) from (by decide))⟩
        ·
          replace c156 := ti_eqN (a := r4) (b := (0 : Int32)) c156 rfl (show (0 : Int32).toInt = 0 from rfl)
          unfold f_X0_reaches_90
          unfold f_X0_reaches_95
          refine ok_chk (by decide) ?_
          exact ok_ret ⟨rfl, (show (0 : Int) ≤ (1 : Int32).toInt ∧ (1 : Int32).toInt ≤ (1 : Int) from (by decide))⟩
    ·
      replace c154 := ti_eqN (a := r2) (b := (0 : Int32)) c154 rfl (show (0 : Int32).toInt = 0 from rfl)
      unfold f_X0_reaches_90
      unfold f_X0_reaches_95
      refine ok_chk (by decide) ?_
      exact ok_ret ⟨rfl, (show (0 : Int) ≤ (1 : Int32).toInt ∧ (1 : Int32).toInt ≤ (1 : Int) from (by decide))⟩
theorem t_f_X0_reaches_0 {S : ZS} {x0 : Nat} {x1 : Int32} {x2 : Int32} (hT : ZT S) (r_x0 : zK S x0 = 0) (r_x1 : (0 : Int) ≤ x1.toInt ∧ x1.toInt ≤ (63 : Int)) (r_x2 : (0 : Int) ≤ x2.toInt ∧ x2.toInt ≤ (63 : Int)) : Ok (f_X0_reaches_0 x0 x1 x2 S) (fun o => o.2 = S ∧ ((0 : Int) ≤ o.1.toInt ∧ o.1.toInt ≤ (1 : Int))) := by
  unfold f_X0_reaches_0
  refine ok_chk r_x0 ?_
  obtain ⟨b1, p_b1, k_b1, n_b1⟩ := T_0_0 hT r_x0
  refine ok_calR p_b1 ?_
  refine ok_chk k_b1 ?_
  refine ok_chk (ti_inN (v := x1) (n := 64) n_b1 (by omega) (by omega)) ?_
  refine ok_bnd (fun v2 e157 => ?_)
  refine ok_if (fun c158 => ?_) (fun c158 => ?_)
  ·
    replace c158 := ti_eqP (a := v2) (b := (0 : Int32)) c158 rfl (show (0 : Int32).toInt = 0 from rfl)
    unfold f_X0_reaches_45
    refine ok_chk (by decide) ?_
    exact ok_ret ⟨rfl, (show (0 : Int) ≤ (0 : Int32).toInt ∧ (0 : Int32).toInt ≤ (1 : Int) from (by decide))⟩
  ·
    replace c158 := ti_eqN (a := v2) (b := (0 : Int32)) c158 rfl (show (0 : Int32).toInt = 0 from rfl)
    refine ok_bnd (fun v3 e159 => ?_)
    refine ok_chk r_x0 ?_
    have j160 := J_0_3 hT r_x0
    refine ok_if (fun c161 => ?_) (fun c161 => ?_)
    ·
      replace c161 := ti_eqP (a := v3) (b := (zI S 3 x0)) c161 rfl rfl
      refine ok_chk r_x0 ?_
      obtain ⟨b4, p_b4, k_b4, n_b4⟩ := T_0_0 hT r_x0
      refine ok_calR p_b4 ?_
      refine ok_chk k_b4 ?_
      refine ok_chk (ti_inN (v := x2) (n := 64) n_b4 (by omega) (by omega)) ?_
      refine ok_bnd (fun v5 e162 => ?_)
      refine ok_if (fun c163 => ?_) (fun c163 => ?_)
      ·
        replace c163 := ti_eqP (a := v5) (b := (0 : Int32)) c163 rfl (show (0 : Int32).toInt = 0 from rfl)
        exact t_f_X0_reaches_47 (S := S)  (x0 := x0) (x1 := x1) (x2 := x2) hT r_x0 r_x1 r_x2
      ·
        replace c163 := ti_eqN (a := v5) (b := (0 : Int32)) c163 rfl (show (0 : Int32).toInt = 0 from rfl)
        refine ok_chk r_x0 ?_
        obtain ⟨b6, p_b6, k_b6, n_b6⟩ := T_0_0 hT r_x0
        refine ok_calR p_b6 ?_
        refine ok_chk k_b6 ?_
        refine ok_chk (ti_inN (v := x2) (n := 64) n_b6 (by omega) (by omega)) ?_
        refine ok_bnd (fun v7 e164 => ?_)
        refine ok_bnd (fun v8 e165 => ?_)
        refine ok_chk r_x0 ?_
        refine ok_if (fun c166 => ?_) (fun c166 => ?_)
        ·
          replace c166 := ti_eqP (a := v8) (b := (zI S 3 x0)) c166 rfl rfl
          unfold f_X0_reaches_45
          refine ok_chk (by decide) ?_
          exact ok_ret ⟨rfl, (show (0 : Int) ≤ (0 : Int32).toInt ∧ (0 : Int32).toInt ≤ (1 : Int) from (by decide))⟩
        ·
          replace c166 := ti_eqN (a := v8) (b := (zI S 3 x0)) c166 rfl rfl
          exact t_f_X0_reaches_47 (S := S)  (x0 := x0) (x1 := x1) (x2 := x2) hT r_x0 r_x1 r_x2
    ·
      replace c161 := ti_eqN (a := v3) (b := (zI S 3 x0)) c161 rfl rfl
      unfold f_X0_reaches_45
      refine ok_chk (by decide) ?_
      exact ok_ret ⟨rfl, (show (0 : Int) ≤ (0 : Int32).toInt ∧ (0 : Int32).toInt ≤ (1 : Int) from (by decide))⟩
theorem t_f_X0_reaches {S : ZS} {x0 : Nat} {x1 : Int32} {x2 : Int32} (hT : ZT S) (r_x0 : zK S x0 = 0) (r_x1 : (0 : Int) ≤ x1.toInt ∧ x1.toInt ≤ (63 : Int)) (r_x2 : (0 : Int) ≤ x2.toInt ∧ x2.toInt ≤ (63 : Int)) : Ok (f_X0_reaches x0 x1 x2 S) (fun o => o.2 = S ∧ ((0 : Int) ≤ o.1.toInt ∧ o.1.toInt ≤ (1 : Int))) := t_f_X0_reaches_0 hT r_x0 r_x1 r_x2
theorem t_f_X0_takes_0 {S : ZS} {x0 : Nat} {x1 : Int32} {x2 : Int32} (hT : ZT S) (r_x0 : zK S x0 = 0) (r_x1 : (0 : Int) ≤ x1.toInt ∧ x1.toInt ≤ (63 : Int)) (r_x2 : (0 : Int) ≤ x2.toInt ∧ x2.toInt ≤ (63 : Int)) : Ok (f_X0_takes_0 x0 x1 x2 S) (fun o => o.2 = S ∧ ((0 : Int) ≤ o.1.toInt ∧ o.1.toInt ≤ (1 : Int))) := by
  unfold f_X0_takes_0
  refine ok_chk r_x0 ?_
  obtain ⟨b1, p_b1, k_b1, n_b1⟩ := T_0_0 hT r_x0
  refine ok_calR p_b1 ?_
  refine ok_chk k_b1 ?_
  refine ok_chk (ti_inN (v := x2) (n := 64) n_b1 (by omega) (by omega)) ?_
  refine ok_bnd (fun v2 e167 => ?_)
  refine ok_if (fun c168 => ?_) (fun c168 => ?_)
  ·
    replace c168 := ti_eqP (a := v2) (b := (0 : Int32)) c168 rfl (show (0 : Int32).toInt = 0 from rfl)
    refine ok_chk r_x0 ?_
    obtain ⟨r3, h_r3, p_r3⟩ := roz (t_f_X0_kindAt (x0 := x0) (x1 := x1) hT r_x0 r_x1)
    dsimp only at p_r3
    refine ok_calR h_r3 ?_
    refine ok_if (fun c169 => ?_) (fun c169 => ?_)
    ·
      replace c169 := ti_eqP (a := r3) (b := (1 : Int32)) c169 rfl (show (1 : Int32).toInt = 1 from rfl)
      refine ok_bnd (fun v4 e170 => ?_)
      have t_v4 : v4.toInt = x1.toInt % 8 := b_and7 e170 (by omega)
      refine ok_bnd (fun v5 e171 => ?_)
      have t_v5 : v5.toInt = x2.toInt % 8 := b_and7 e171 (by omega)
      refine ok_if (fun c172 => ?_) (fun c172 => ?_)
      ·
        replace c172 := ti_eqP (a := v4) (b := v5) c172 rfl rfl
        unfold f_X0_takes_33
        unfold f_X0_takes_34
        refine ok_chk (by decide) ?_
        exact ok_ret ⟨rfl, (show (0 : Int) ≤ (0 : Int32).toInt ∧ (0 : Int32).toInt ≤ (1 : Int) from (by decide))⟩
      ·
        replace c172 := ti_eqN (a := v4) (b := v5) c172 rfl rfl
        unfold f_X0_takes_29
        unfold f_X0_takes_34
        refine ok_chk (by decide) ?_
        exact ok_ret ⟨rfl, (show (0 : Int) ≤ (1 : Int32).toInt ∧ (1 : Int32).toInt ≤ (1 : Int) from (by decide))⟩
    ·
      replace c169 := ti_eqN (a := r3) (b := (1 : Int32)) c169 rfl (show (1 : Int32).toInt = 1 from rfl)
      unfold f_X0_takes_33
      unfold f_X0_takes_34
      refine ok_chk (by decide) ?_
      exact ok_ret ⟨rfl, (show (0 : Int) ≤ (0 : Int32).toInt ∧ (0 : Int32).toInt ≤ (1 : Int) from (by decide))⟩
  ·
    replace c168 := ti_eqN (a := v2) (b := (0 : Int32)) c168 rfl (show (0 : Int32).toInt = 0 from rfl)
    unfold f_X0_takes_29
    unfold f_X0_takes_34
    refine ok_chk (by decide) ?_
    exact ok_ret ⟨rfl, (show (0 : Int) ≤ (1 : Int32).toInt ∧ (1 : Int32).toInt ≤ (1 : Int) from (by decide))⟩
theorem t_f_X0_takes {S : ZS} {x0 : Nat} {x1 : Int32} {x2 : Int32} (hT : ZT S) (r_x0 : zK S x0 = 0) (r_x1 : (0 : Int) ≤ x1.toInt ∧ x1.toInt ≤ (63 : Int)) (r_x2 : (0 : Int) ≤ x2.toInt ∧ x2.toInt ≤ (63 : Int)) : Ok (f_X0_takes x0 x1 x2 S) (fun o => o.2 = S ∧ ((0 : Int) ≤ o.1.toInt ∧ o.1.toInt ≤ (1 : Int))) := t_f_X0_takes_0 hT r_x0 r_x1 r_x2
theorem t_f_X0_becomesAnother_0 {S : ZS} {x0 : Nat} {x1 : Int32} {x2 : Int32} (hT : ZT S) (r_x0 : zK S x0 = 0) (r_x1 : (0 : Int) ≤ x1.toInt ∧ x1.toInt ≤ (63 : Int)) : Ok (f_X0_becomesAnother_0 x0 x1 x2 S) (fun o => o.2 = S ∧ ((0 : Int) ≤ o.1.toInt ∧ o.1.toInt ≤ (1 : Int))) := by
  unfold f_X0_becomesAnother_0
  refine ok_chk r_x0 ?_
  obtain ⟨r1, h_r1, p_r1⟩ := roz (t_f_X0_kindAt (x0 := x0) (x1 := x1) hT r_x0 r_x1)
  dsimp only at p_r1
  refine ok_calR h_r1 ?_
  refine ok_if (fun c173 => ?_) (fun c173 => ?_)
  ·
    replace c173 := ti_eqP (a := r1) (b := (1 : Int32)) c173 rfl (show (1 : Int32).toInt = 1 from rfl)
    refine ok_if (fun c174 => ?_) (fun c174 => ?_)
    ·
      replace c174 := ti_ltP (a := x2) (b := (8 : Int32)) c174 rfl (show (8 : Int32).toInt = 8 from rfl)
      unfold f_X0_becomesAnother_21
      unfold f_X0_becomesAnother_26
      refine ok_chk (by decide) ?_
      exact ok_ret ⟨rfl, (show (0 : Int) ≤ (1 : Int32).toInt ∧ (1 : Int32).toInt ≤ (1 : Int) from (by decide))⟩
    ·
      replace c174 := ti_ltN (a := x2) (b := (8 : Int32)) c174 rfl (show (8 : Int32).toInt = 8 from rfl)
      refine ok_if (fun c175 => ?_) (fun c175 => ?_)
      ·
        replace c175 := ti_ltP (a := x2) (b := (56 : Int32)) c175 rfl (show (56 : Int32).toInt = 56 from rfl)
        unfold f_X0_becomesAnother_25
        unfold f_X0_becomesAnother_26
        refine ok_chk (by decide) ?_
        exact ok_ret ⟨rfl, (show (0 : Int) ≤ (0 : Int32).toInt ∧ (0 : Int32).toInt ≤ (1 : Int) from (by decide))⟩
      ·
        replace c175 := ti_ltN (a := x2) (b := (56 : Int32)) c175 rfl (show (56 : Int32).toInt = 56 from rfl)
        unfold f_X0_becomesAnother_21
        unfold f_X0_becomesAnother_26
        refine ok_chk (by decide) ?_
        exact ok_ret ⟨rfl, (show (0 : Int) ≤ (1 : Int32).toInt ∧ (1 : Int32).toInt ≤ (1 : Int) from (by decide))⟩
  ·
    replace c173 := ti_eqN (a := r1) (b := (1 : Int32)) c173 rfl (show (1 : Int32).toInt = 1 from rfl)
    unfold f_X0_becomesAnother_25
    unfold f_X0_becomesAnother_26
    refine ok_chk (by decide) ?_
    exact ok_ret ⟨rfl, (show (0 : Int) ≤ (0 : Int32).toInt ∧ (0 : Int32).toInt ≤ (1 : Int) from (by decide))⟩
theorem t_f_X0_becomesAnother {S : ZS} {x0 : Nat} {x1 : Int32} {x2 : Int32} (hT : ZT S) (r_x0 : zK S x0 = 0) (r_x1 : (0 : Int) ≤ x1.toInt ∧ x1.toInt ≤ (63 : Int)) : Ok (f_X0_becomesAnother x0 x1 x2 S) (fun o => o.2 = S ∧ ((0 : Int) ≤ o.1.toInt ∧ o.1.toInt ≤ (1 : Int))) := t_f_X0_becomesAnother_0 hT r_x0 r_x1
theorem t_f_X0_pawnAttacks_57 {S : ZS} {x0 : Nat} {x3 : Int32} {x4 : Int32} (hT : ZT S) (r_x0 : zK S x0 = 0) (r_x4 : (0 : Int) ≤ x4.toInt ∧ x4.toInt ≤ (63 : Int)) : Ok (f_X0_pawnAttacks_57 x0 x3 x4 S) (fun o => o.2 = S ∧ ((0 : Int) ≤ o.1.toInt ∧ o.1.toInt ≤ (1 : Int))) := by
  unfold f_X0_pawnAttacks_57
  refine ok_bnd (fun v1 e176 => ?_)
  have t_v1 : v1.toInt = x4.toInt % 8 := b_and7 e176 (by omega)
  refine ok_if (fun c177 => ?_) (fun c177 => ?_)
  ·
    replace c177 := ti_leP (a := (7 : Int32)) (b := v1) c177 (show (7 : Int32).toInt = 7 from rfl) rfl
    unfold f_X0_pawnAttacks_84
    unfold f_X0_pawnAttacks_85
    refine ok_chk (by decide) ?_
    exact ok_ret ⟨rfl, (show (0 : Int) ≤ (0 : Int32).toInt ∧ (0 : Int32).toInt ≤ (1 : Int) from (by decide))⟩
  ·
    replace c177 := ti_leN (a := (7 : Int32)) (b := v1) c177 (show (7 : Int32).toInt = 7 from rfl) rfl
    refine ok_chk r_x0 ?_
    obtain ⟨b2, p_b2, k_b2, n_b2⟩ := T_0_0 hT r_x0
    refine ok_calR p_b2 ?_
    refine ok_bnd (fun v3 e178 => ?_)
    have t_v3 : v3.toInt = x4.toInt + 1 := ti_add e178 rfl (show (1 : Int32).toInt = 1 from rfl) (by omega) (by omega)
    refine ok_chk k_b2 ?_
    refine ok_chk (ti_inN (v := v3) (n := 64) n_b2 (by omega) (by omega)) ?_
    refine ok_bnd (fun v4 e179 => ?_)
    refine ok_if (fun c180 => ?_) (fun c180 => ?_)
    ·
      replace c180 := ti_eqP (a := v4) (b := x3) c180 rfl rfl
      unfold f_X0_pawnAttacks_80
      unfold f_X0_pawnAttacks_85
      refine ok_chk (by decide) ?_
      exact ok_ret ⟨rfl, (show (0 : Int) ≤ (1 : Int32).toInt ∧ (1 : Int32).toInt ≤ (1 : Int) from (by decide))⟩
    ·
      replace c180 := ti_eqN (a := v4) (b := x3) c180 rfl rfl
      unfold f_X0_pawnAttacks_84
      unfold f_X0_pawnAttacks_85
      refine ok_chk (by decide) ?_
      exact ok_ret ⟨rfl, (show (0 : Int) ≤ (0 : Int32).toInt ∧ (0 : Int32).toInt ≤ (1 : Int) from (by decide))⟩
theorem t_f_X0_pawnAttacks_19 {S : ZS} {x0 : Nat} {x3 : Int32} {t0 : Int32} {t1 : Int32} (hT : ZT S) (r_x0 : zK S x0 = 0) (r_t0 : (-8 : Int) ≤ t0.toInt ∧ t0.toInt ≤ (8 : Int)) (r_t1 : (0 : Int) ≤ t1.toInt ∧ t1.toInt ≤ (63 : Int)) : Ok (f_X0_pawnAttacks_19 x0 x3 t0 t1 S) (fun o => o.2 = S ∧ ((0 : Int) ≤ o.1.toInt ∧ o.1.toInt ≤ (1 : Int))) := by
  unfold f_X0_pawnAttacks_19
  refine ok_bnd (fun v1 e181 => ?_)
  have t_v1 : v1.toInt = t1.toInt + t0.toInt := ti_add e181 rfl rfl (by omega) (by omega)
  refine ok_if (fun c182 => ?_) (fun c182 => ?_)
  ·
    replace c182 := ti_ltP (a := v1) (b := (0 : Int32)) c182 rfl (show (0 : Int32).toInt = 0 from rfl)
    unfold f_X0_pawnAttacks_34
    refine ok_chk (by decide) ?_
    exact ok_ret ⟨rfl, (show (0 : Int) ≤ (0 : Int32).toInt ∧ (0 : Int32).toInt ≤ (1 : Int) from (by decide))⟩
  ·
    replace c182 := ti_ltN (a := v1) (b := (0 : Int32)) c182 rfl (show (0 : Int32).toInt = 0 from rfl)
    refine ok_if (fun c183 => ?_) (fun c183 => ?_)
    ·
      replace c183 := ti_ltP (a := v1) (b := (64 : Int32)) c183 rfl (show (64 : Int32).toInt = 64 from rfl)
      refine ok_bnd (fun v2 e184 => ?_)
      have t_v2 : v2.toInt = v1.toInt % 8 := b_and7 e184 (by omega)
      refine ok_if (fun c185 => ?_) (fun c185 => ?_)
      ·
        replace c185 := ti_leP (a := v2) (b := (0 : Int32)) c185 rfl (show (0 : Int32).toInt = 0 from rfl)
        exact t_f_X0_pawnAttacks_57 (S := S)  (x0 := x0) (x3 := x3) (x4 := v1) hT r_x0 (by omega)
      ·
        replace c185 := ti_leN (a := v2) (b := (0 : Int32)) c185 rfl (show (0 : Int32).toInt = 0 from rfl)
        refine ok_chk r_x0 ?_
        obtain ⟨b3, p_b3, k_b3, n_b3⟩ := T_0_0 hT r_x0
        refine ok_calR p_b3 ?_
        refine ok_bnd (fun v4 e186 => ?_)
        have t_v4 : v4.toInt = v1.toInt - 1 := ti_sub e186 rfl (show (1 : Int32).toInt = 1 from rfl) (by omega) (by omega)
        refine ok_chk k_b3 ?_
        refine ok_chk (ti_inN (v := v4) (n := 64) n_b3 (by omega) (by omega)) ?_
        refine ok_bnd (fun v5 e187 => ?_)
        refine ok_if (fun c188 => ?_) (fun c188 => ?_)
        ·
          replace c188 := ti_eqP (a := v5) (b := x3) c188 rfl rfl
          unfold f_X0_pawnAttacks_80
          unfold f_X0_pawnAttacks_85
          refine ok_chk (by decide) ?_
          exact ok_ret ⟨rfl, (show (0 : Int) ≤ (1 : Int32).toInt ∧ (1 : Int32).toInt ≤ (1 : Int) from (by decide))⟩
        ·
          replace c188 := ti_eqN (a := v5) (b := x3) c188 rfl rfl
          exact t_f_X0_pawnAttacks_57 (S := S)  (x0 := x0) (x3 := x3) (x4 := v1) hT r_x0 (by omega)
    ·
      replace c183 := ti_ltN (a := v1) (b := (64 : Int32)) c183 rfl (show (64 : Int32).toInt = 64 from rfl)
      unfold f_X0_pawnAttacks_34
      refine ok_chk (by decide) ?_
      exact ok_ret ⟨rfl, (show (0 : Int) ≤ (0 : Int32).toInt ∧ (0 : Int32).toInt ≤ (1 : Int) from (by decide))⟩
theorem t_f_X0_pawnAttacks_0 {S : ZS} {x0 : Nat} {x1 : Int32} {x2 : Int32} (hT : ZT S) (r_x0 : zK S x0 = 0) (r_x1 : (0 : Int) ≤ x1.toInt ∧ x1.toInt ≤ (63 : Int)) (r_x2 : (0 : Int) ≤ x2.toInt ∧ x2.toInt ≤ (1 : Int)) : Ok (f_X0_pawnAttacks_0 x0 x1 x2 S) (fun o => o.2 = S ∧ ((0 : Int) ≤ o.1.toInt ∧ o.1.toInt ≤ (1 : Int))) := by
  unfold f_X0_pawnAttacks_0
  refine ok_bnd (fun v1 e189 => ?_)
  have t_v1 : v1.toInt = 8 * x2.toInt := ti_mul e189 (show (8 : Int32).toInt = 8 from rfl) rfl (by omega) (by omega)
  refine ok_bnd (fun v2 e190 => ?_)
  have t_v2 : v2.toInt = 1 + v1.toInt := ti_add e190 (show (1 : Int32).toInt = 1 from rfl) rfl (by omega) (by omega)
  refine ok_if (fun c191 => ?_) (fun c191 => ?_)
  ·
    replace c191 := ti_eqP (a := x2) (b := (0 : Int32)) c191 rfl (show (0 : Int32).toInt = 0 from rfl)
    exact t_f_X0_pawnAttacks_19 (S := S)  (x0 := x0) (x3 := v2) (t0 := (-8 : Int32)) (t1 := x1) hT r_x0 (by decide) r_x1
  ·
    replace c191 := ti_eqN (a := x2) (b := (0 : Int32)) c191 rfl (show (0 : Int32).toInt = 0 from rfl)
    exact t_f_X0_pawnAttacks_19 (S := S)  (x0 := x0) (x3 := v2) (t0 := (8 : Int32)) (t1 := x1) hT r_x0 (by decide) r_x1
theorem t_f_X0_pawnAttacks {S : ZS} {x0 : Nat} {x1 : Int32} {x2 : Int32} (hT : ZT S) (r_x0 : zK S x0 = 0) (r_x1 : (0 : Int) ≤ x1.toInt ∧ x1.toInt ≤ (63 : Int)) (r_x2 : (0 : Int) ≤ x2.toInt ∧ x2.toInt ≤ (1 : Int)) : Ok (f_X0_pawnAttacks x0 x1 x2 S) (fun o => o.2 = S ∧ ((0 : Int) ≤ o.1.toInt ∧ o.1.toInt ≤ (1 : Int))) := t_f_X0_pawnAttacks_0 hT r_x0 r_x1 r_x2
theorem t_f_X0_rightsOf_0 {S : ZS} {x0 : Int32} (hT : ZT S) : Ok (f_X0_rightsOf_0 x0 S) (fun o => o.2 = S ∧ ((0 : Int) ≤ o.1.toInt ∧ o.1.toInt ≤ (12 : Int))) := by
  unfold f_X0_rightsOf_0
  refine ok_if (fun c192 => ?_) (fun c192 => ?_)
  ·
    replace c192 := ti_eqP (a := x0) (b := (0 : Int32)) c192 rfl (show (0 : Int32).toInt = 0 from rfl)
    exact ok_ret ⟨rfl, (show (0 : Int) ≤ (2 : Int32).toInt ∧ (2 : Int32).toInt ≤ (12 : Int) from (by decide))⟩
  ·
    replace c192 := ti_eqN (a := x0) (b := (0 : Int32)) c192 rfl (show (0 : Int32).toInt = 0 from rfl)
    refine ok_if (fun c193 => ?_) (fun c193 => ?_)
    ·
      replace c193 := ti_eqP (a := x0) (b := (4 : Int32)) c193 rfl (show (4 : Int32).toInt = 4 from rfl)
      exact ok_ret ⟨rfl, (show (0 : Int) ≤ (3 : Int32).toInt ∧ (3 : Int32).toInt ≤ (12 : Int) from (by decide))⟩
    ·
      replace c193 := ti_eqN (a := x0) (b := (4 : Int32)) c193 rfl (show (4 : Int32).toInt = 4 from rfl)
      refine ok_if (fun c194 => ?_) (fun c194 => ?_)
      ·
        replace c194 := ti_eqP (a := x0) (b := (7 : Int32)) c194 rfl (show (7 : Int32).toInt = 7 from rfl)
        exact ok_ret ⟨rfl, (show (0 : Int) ≤ (1 : Int32).toInt ∧ (1 : Int32).toInt ≤ (12 : Int) from (by decide))⟩
      ·
        replace c194 := ti_eqN (a := x0) (b := (7 : Int32)) c194 rfl (show (7 : Int32).toInt = 7 from rfl)
        refine ok_if (fun c195 => ?_) (fun c195 => ?_)
        ·
          replace c195 := ti_eqP (a := x0) (b := (56 : Int32)) c195 rfl (show (56 : Int32).toInt = 56 from rfl)
          exact ok_ret ⟨rfl, (show (0 : Int) ≤ (8 : Int32).toInt ∧ (8 : Int32).toInt ≤ (12 : Int) from (by decide))⟩
        ·
          replace c195 := ti_eqN (a := x0) (b := (56 : Int32)) c195 rfl (show (56 : Int32).toInt = 56 from rfl)
          refine ok_if (fun c196 => ?_) (fun c196 => ?_)
          ·
            replace c196 := ti_eqP (a := x0) (b := (60 : Int32)) c196 rfl (show (60 : Int32).toInt = 60 from rfl)
            exact ok_ret ⟨rfl, (show (0 : Int) ≤ (12 : Int32).toInt ∧ (12 : Int32).toInt ≤ (12 : Int) from (by decide))⟩
          ·
            replace c196 := ti_eqN (a := x0) (b := (60 : Int32)) c196 rfl (show (60 : Int32).toInt = 60 from rfl)
            refine ok_if (fun c197 => ?_) (fun c197 => ?_)
            ·
              replace c197 := ti_eqP (a := x0) (b := (63 : Int32)) c197 rfl (show (63 : Int32).toInt = 63 from rfl)
              exact ok_ret ⟨rfl, (show (0 : Int) ≤ (4 : Int32).toInt ∧ (4 : Int32).toInt ≤ (12 : Int) from (by decide))⟩
            ·
              replace c197 := ti_eqN (a := x0) (b := (63 : Int32)) c197 rfl (show (63 : Int32).toInt = 63 from rfl)
              exact ok_ret ⟨rfl, (show (0 : Int) ≤ (0 : Int32).toInt ∧ (0 : Int32).toInt ≤ (12 : Int) from (by decide))⟩
theorem t_f_X0_rightsOf {S : ZS} {x0 : Int32} (hT : ZT S) : Ok (f_X0_rightsOf x0 S) (fun o => o.2 = S ∧ ((0 : Int) ≤ o.1.toInt ∧ o.1.toInt ≤ (12 : Int))) := t_f_X0_rightsOf_0 hT 
theorem t_f_X0_play_227 {SZ S : ZS} {x0 : Nat} (hT : ZT S) (hR : A7 SZ S) (r_x0 : zK S x0 = 0) : Ok (f_X0_play_227 x0 S) (fun o => ZT o.2 ∧ A7 SZ o.2 ∧ True) := by
  unfold f_X0_play_227
  refine ok_chk r_x0 ?_
  refine ok_chk r_x0 ?_
  refine ok_bnd (fun v1 e198 => ?_)
  have j199 := J_0_3 hT r_x0
  refine ok_chk r_x0 ?_
  refine ok_bnd (fun S2 e200 => ?_)
  have T_S2 : ZT S2 := e200.symm ▸ zt_W hT r_x0 (by decide) rfl
  have kE_S2 : zK S2 = zK S := by rw [e200]; rfl
  have nE_S2 : zN S2 = zN S := by rw [e200]; rfl
  have R_S2 : A7 SZ S2 := a7_I hR e200 r_x0 (by decide)
  refine ok_chk ((congrFun kE_S2 x0).trans r_x0) ?_
  refine ok_bnd (fun v3 e201 => ?_)
  have j202 := J_0_3 T_S2 ((congrFun kE_S2 x0).trans r_x0)
  have t_v3 : v3.toInt = 1 - (zI S2 3 x0).toInt := ti_sub e201 (show (1 : Int32).toInt = 1 from rfl) rfl (by omega) (by omega)
  refine ok_chk ((congrFun kE_S2 x0).trans r_x0) ?_
  refine ok_bnd (fun S4 e203 => ?_)
  have T_S4 : ZT S4 := e203.symm ▸ zt_I T_S2 ((congrFun kE_S2 x0).trans r_x0) (by decide) (show (0 : Int) ≤ v3.toInt ∧ v3.toInt ≤ (1 : Int) from (by omega))
  have kE_S4 : zK S4 = zK S2 := by rw [e203]; rfl
  have nE_S4 : zN S4 = zN S2 := by rw [e203]; rfl
  have R_S4 : A7 SZ S4 := a7_I R_S2 e203 ((congrFun kE_S2 x0).trans r_x0) (by decide)
  exact ok_ret ⟨T_S4, R_S4, trivial⟩
theorem t_f_X0_play_200 {SZ S : ZS} {x0 : Nat} {x2 : Int32} {x3 : Int32} (hT : ZT S) (hR : A7 SZ S) (r_x0 : zK S x0 = 0) (r_x2 : (0 : Int) ≤ x2.toInt ∧ x2.toInt ≤ (63 : Int)) (r_x3 : (0 : Int) ≤ x3.toInt ∧ x3.toInt ≤ (63 : Int)) : Ok (f_X0_play_200 x0 x2 x3 S) (fun o => ZT o.2 ∧ A7 SZ o.2 ∧ True) := by
  unfold f_X0_play_200
  refine ok_bnd (fun v1 e204 => ?_)
  have t_v1 : v1.toInt = x2.toInt + x3.toInt := ti_add e204 rfl rfl (by omega) (by omega)
  refine ok_bnd (fun v2 e205 => ?_)
  have t_v2 : v2.toInt = v1.toInt / 2 := ti_div e205 rfl (show (2 : Int32).toInt = 2 from rfl) (by omega) (by decide)
  refine ok_chk r_x0 ?_
  refine ok_bnd (fun v3 e206 => ?_)
  have j207 := J_0_3 hT r_x0
  have t_v3 : v3.toInt = 1 - (zI S 3 x0).toInt := ti_sub e206 (show (1 : Int32).toInt = 1 from rfl) rfl (by omega) (by omega)
  refine ok_chk r_x0 ?_
  obtain ⟨r4, h_r4, p_r4⟩ := roz (t_f_X0_pawnAttacks (x0 := x0) (x1 := v2) (x2 := v3) hT r_x0 (by omega) (by omega))
  dsimp only at p_r4
  refine ok_calR h_r4 ?_
  refine ok_if (fun c208 => ?_) (fun c208 => ?_)
  ·
    replace c208 := ti_eqP (a := r4) (b := (0 : Int32)) c208 rfl (show (0 : Int32).toInt = 0 from rfl)
    exact t_f_X0_play_227 (S := S)  (x0 := x0) hT hR r_x0
  ·
    replace c208 := ti_eqN (a := r4) (b := (0 : Int32)) c208 rfl (show (0 : Int32).toInt = 0 from rfl)
    refine ok_bnd (fun v5 e209 => ?_)
    have t_v5 : v5.toInt = x2.toInt + x3.toInt := ti_add e209 rfl rfl (by omega) (by omega)
    refine ok_bnd (fun v6 e210 => ?_)
    have t_v6 : v6.toInt = v5.toInt / 2 := ti_div e210 rfl (show (2 : Int32).toInt = 2 from rfl) (by omega) (by decide)
    refine ok_chk r_x0 ?_
    refine ok_bnd (fun S7 e211 => ?_)
    have T_S7 : ZT S7 := e211.symm ▸ zt_I hT r_x0 (by decide) (show (-1 : Int) ≤ v6.toInt ∧ v6.toInt ≤ (63 : Int) from (by omega))
    have kE_S7 : zK S7 = zK S := by rw [e211]; rfl
    have nE_S7 : zN S7 = zN S := by rw [e211]; rfl
    have R_S7 : A7 SZ S7 := a7_I hR e211 r_x0 (by decide)
    exact t_f_X0_play_227 (S := S7)  (x0 := x0) T_S7 R_S7 ((congrFun kE_S7 x0).trans r_x0)
theorem t_f_X0_play_144 {SZ S : ZS} {x0 : Nat} {x2 : Int32} {x3 : Int32} {x5 : Int32} {t0 : Int32} {t1 : Int32} {t2 : Nat} (hT : ZT S) (hR : A7 SZ S) (r_x0 : zK S x0 = 0) (r_x2 : (0 : Int) ≤ x2.toInt ∧ x2.toInt ≤ (63 : Int)) (r_x3 : (0 : Int) ≤ x3.toInt ∧ x3.toInt ≤ (63 : Int)) (r_x5 : (0 : Int) ≤ x5.toInt ∧ x5.toInt ≤ (1 : Int)) (r_t1 : (0 : Int) ≤ t1.toInt ∧ t1.toInt ≤ (63 : Int)) (r_t2 : zK S t2 = 0) : Ok (f_X0_play_144 x0 x2 x3 x5 t0 t1 t2 S) (fun o => ZT o.2 ∧ A7 SZ o.2 ∧ True) := by
  unfold f_X0_play_144
  refine ok_chk r_t2 ?_
  obtain ⟨⟨r1, S1⟩, h_r1, T_S1, A_S1, -⟩ := t_f_X0_put (x0 := t2) (x1 := t1) (x2 := t0) (SZ := S) hT (a7_0 S) r_t2 r_t1
  replace T_S1 : ZT S1 := T_S1
  replace A_S1 : A7 S S1 := A_S1
  refine ok_calR h_r1 ?_
  have q_S1 := fq_X0_put h_r1
  have kE_S1 : zK S1 = zK S := q_S1.2.2.1
  have nE_S1 : zN S1 = zN S := q_S1.2.2.2.1
  have R_S1 : A7 SZ S1 := a7_t hR A_S1
  refine ok_chk ((congrFun kE_S1 x0).trans r_x0) ?_
  obtain ⟨b2, p_b2, k_b2, n_b2⟩ := T_0_0 T_S1 ((congrFun kE_S1 x0).trans r_x0)
  refine ok_calR p_b2 ?_
  refine ok_chk k_b2 ?_
  refine ok_chk (ti_inN (v := x2) (n := 64) n_b2 (by omega) (by omega)) ?_
  refine ok_bnd (fun S3 e212 => ?_)
  have T_S3 : ZT S3 := e212.symm ▸ zt_A T_S1 k_b2
  have kE_S3 : zK S3 = zK S1 := by rw [e212]; rfl
  have nE_S3 : zN S3 = zN S1 := by rw [e212]; rfl
  have R_S3 : A7 SZ S3 := a7_A R_S1 e212 T_S1 k_b2 n_b2 (by decide)
  refine ok_chk ((congrFun kE_S3 x0).trans ((congrFun kE_S1 x0).trans r_x0)) ?_
  obtain ⟨r4, h_r4, p_r4⟩ := roz (t_f_X0_rightsOf (x0 := x2) T_S3 )
  dsimp only at p_r4
  refine ok_calR h_r4 ?_
  obtain ⟨r5, h_r5, p_r5⟩ := roz (t_f_X0_rightsOf (x0 := x3) T_S3 )
  dsimp only at p_r5
  refine ok_calR h_r5 ?_
  refine ok_bnd (fun v6 e213 => ?_)
  refine ok_bnd (fun v7 e214 => ?_)
  refine ok_bnd (fun v8 e215 => ?_)
  refine ok_chk ((congrFun kE_S3 x0).trans ((congrFun kE_S1 x0).trans r_x0)) ?_
  refine ok_bnd (fun S9 e216 => ?_)
  have T_S9 : ZT S9 := e216.symm ▸ zt_W T_S3 ((congrFun kE_S3 x0).trans ((congrFun kE_S1 x0).trans r_x0)) (by decide) rfl
  have kE_S9 : zK S9 = zK S3 := by rw [e216]; rfl
  have nE_S9 : zN S9 = zN S3 := by rw [e216]; rfl
  have R_S9 : A7 SZ S9 := a7_I R_S3 e216 ((congrFun kE_S3 x0).trans ((congrFun kE_S1 x0).trans r_x0)) (by decide)
  refine ok_chk ((congrFun kE_S9 x0).trans ((congrFun kE_S3 x0).trans ((congrFun kE_S1 x0).trans r_x0))) ?_
  refine ok_bnd (fun S10 e217 => ?_)
  have T_S10 : ZT S10 := e217.symm ▸ zt_I T_S9 ((congrFun kE_S9 x0).trans ((congrFun kE_S3 x0).trans ((congrFun kE_S1 x0).trans r_x0))) (by decide) (show (-1 : Int) ≤ (-1 : Int32).toInt ∧ (-1 : Int32).toInt ≤ (63 : Int) from (by decide))
  have kE_S10 : zK S10 = zK S9 := by rw [e217]; rfl
  have nE_S10 : zN S10 = zN S9 := by rw [e217]; rfl
  have R_S10 : A7 SZ S10 := a7_I R_S9 e217 ((congrFun kE_S9 x0).trans ((congrFun kE_S3 x0).trans ((congrFun kE_S1 x0).trans r_x0))) (by decide)
  refine ok_if (fun c218 => ?_) (fun c218 => ?_)
  ·
    replace c218 := ti_eqP (a := x5) (b := (0 : Int32)) c218 rfl (show (0 : Int32).toInt = 0 from rfl)
    exact t_f_X0_play_227 (S := S10)  (x0 := x0) T_S10 R_S10 ((congrFun kE_S10 x0).trans ((congrFun kE_S9 x0).trans ((congrFun kE_S3 x0).trans ((congrFun kE_S1 x0).trans r_x0))))
  ·
    replace c218 := ti_eqN (a := x5) (b := (0 : Int32)) c218 rfl (show (0 : Int32).toInt = 0 from rfl)
    refine ok_bnd (fun v11 e219 => ?_)
    have t_v11 : v11.toInt = x2.toInt + 16 := ti_add e219 rfl (show (16 : Int32).toInt = 16 from rfl) (by omega) (by omega)
    refine ok_if (fun c220 => ?_) (fun c220 => ?_)
    ·
      replace c220 := ti_eqP (a := x3) (b := v11) c220 rfl rfl
      exact t_f_X0_play_200 (S := S10)  (x0 := x0) (x2 := x2) (x3 := x3) T_S10 R_S10 ((congrFun kE_S10 x0).trans ((congrFun kE_S9 x0).trans ((congrFun kE_S3 x0).trans ((congrFun kE_S1 x0).trans r_x0)))) r_x2 r_x3
    ·
      replace c220 := ti_eqN (a := x3) (b := v11) c220 rfl rfl
      refine ok_bnd (fun v12 e221 => ?_)
      have t_v12 : v12.toInt = x2.toInt - 16 := ti_sub e221 rfl (show (16 : Int32).toInt = 16 from rfl) (by omega) (by omega)
      refine ok_if (fun c222 => ?_) (fun c222 => ?_)
      ·
        replace c222 := ti_eqP (a := x3) (b := v12) c222 rfl rfl
        exact t_f_X0_play_200 (S := S10)  (x0 := x0) (x2 := x2) (x3 := x3) T_S10 R_S10 ((congrFun kE_S10 x0).trans ((congrFun kE_S9 x0).trans ((congrFun kE_S3 x0).trans ((congrFun kE_S1 x0).trans r_x0)))) r_x2 r_x3
      ·
        replace c222 := ti_eqN (a := x3) (b := v12) c222 rfl rfl
        exact t_f_X0_play_227 (S := S10)  (x0 := x0) T_S10 R_S10 ((congrFun kE_S10 x0).trans ((congrFun kE_S9 x0).trans ((congrFun kE_S3 x0).trans ((congrFun kE_S1 x0).trans r_x0))))
theorem t_f_X0_play_118 {SZ S : ZS} {x0 : Nat} {x2 : Int32} {x3 : Int32} {x4 : Int32} {x5 : Int32} (hT : ZT S) (hR : A7 SZ S) (r_x0 : zK S x0 = 0) (r_x2 : (0 : Int) ≤ x2.toInt ∧ x2.toInt ≤ (63 : Int)) (r_x3 : (0 : Int) ≤ x3.toInt ∧ x3.toInt ≤ (63 : Int)) (r_x4 : (0 : Int) ≤ x4.toInt ∧ x4.toInt ≤ (7 : Int)) (r_x5 : (0 : Int) ≤ x5.toInt ∧ x5.toInt ≤ (1 : Int)) : Ok (f_X0_play_118 x0 x2 x3 x4 x5 S) (fun o => ZT o.2 ∧ A7 SZ o.2 ∧ True) := by
  unfold f_X0_play_118
  refine ok_if (fun c223 => ?_) (fun c223 => ?_)
  ·
    replace c223 := ti_eqP (a := x4) (b := (0 : Int32)) c223 rfl (show (0 : Int32).toInt = 0 from rfl)
    refine ok_chk r_x0 ?_
    obtain ⟨b3, p_b3, k_b3, n_b3⟩ := T_0_0 hT r_x0
    refine ok_calR p_b3 ?_
    refine ok_chk k_b3 ?_
    refine ok_chk (ti_inN (v := x2) (n := 64) n_b3 (by omega) (by omega)) ?_
    refine ok_bnd (fun v4 e224 => ?_)
    exact t_f_X0_play_144 (S := S)  (x0 := x0) (x2 := x2) (x3 := x3) (x5 := x5) (t0 := v4) (t1 := x3) (t2 := x0) hT hR r_x0 r_x2 r_x3 r_x5 r_x3 r_x0
  ·
    replace c223 := ti_eqN (a := x4) (b := (0 : Int32)) c223 rfl (show (0 : Int32).toInt = 0 from rfl)
    refine ok_chk r_x0 ?_
    refine ok_bnd (fun v1 e225 => ?_)
    have j226 := J_0_3 hT r_x0
    have t_v1 : v1.toInt = 8 * (zI S 3 x0).toInt := ti_mul e225 (show (8 : Int32).toInt = 8 from rfl) rfl (by omega) (by omega)
    refine ok_bnd (fun v2 e227 => ?_)
    have t_v2 : v2.toInt = x4.toInt + v1.toInt := ti_add e227 rfl rfl (by omega) (by omega)
    exact t_f_X0_play_144 (S := S)  (x0 := x0) (x2 := x2) (x3 := x3) (x5 := x5) (t0 := v2) (t1 := x3) (t2 := x0) hT hR r_x0 r_x2 r_x3 r_x5 r_x3 r_x0
theorem t_f_X0_play_91 {SZ S : ZS} {x0 : Nat} {x2 : Int32} {x3 : Int32} {x4 : Int32} {x5 : Int32} {t0 : Int32} (hT : ZT S) (hR : A7 SZ S) (r_x0 : zK S x0 = 0) (r_x2 : (0 : Int) ≤ x2.toInt ∧ x2.toInt ≤ (63 : Int)) (r_x3 : (0 : Int) ≤ x3.toInt ∧ x3.toInt ≤ (63 : Int)) (r_x4 : (0 : Int) ≤ x4.toInt ∧ x4.toInt ≤ (7 : Int)) (r_x5 : (0 : Int) ≤ x5.toInt ∧ x5.toInt ≤ (1 : Int)) (r_t0 : (0 : Int) ≤ t0.toInt ∧ t0.toInt ≤ (63 : Int)) : Ok (f_X0_play_91 x0 x2 x3 x4 x5 t0 S) (fun o => ZT o.2 ∧ A7 SZ o.2 ∧ True) := by
  unfold f_X0_play_91
  refine ok_chk r_x0 ?_
  obtain ⟨b1, p_b1, k_b1, n_b1⟩ := T_0_0 hT r_x0
  refine ok_calR p_b1 ?_
  refine ok_bnd (fun v2 e228 => ?_)
  have t_v2 : v2.toInt = x2.toInt + x3.toInt := ti_add e228 rfl rfl (by omega) (by omega)
  refine ok_bnd (fun v3 e229 => ?_)
  have t_v3 : v3.toInt = v2.toInt / 2 := ti_div e229 rfl (show (2 : Int32).toInt = 2 from rfl) (by omega) (by decide)
  refine ok_chk r_x0 ?_
  obtain ⟨b4, p_b4, k_b4, n_b4⟩ := T_0_0 hT r_x0
  refine ok_calR p_b4 ?_
  refine ok_chk k_b4 ?_
  refine ok_chk (ti_inN (v := t0) (n := 64) n_b4 (by omega) (by omega)) ?_
  refine ok_bnd (fun v5 e230 => ?_)
  refine ok_chk k_b1 ?_
  refine ok_chk (ti_inN (v := v3) (n := 64) n_b1 (by omega) (by omega)) ?_
  refine ok_bnd (fun S6 e231 => ?_)
  have T_S6 : ZT S6 := e231.symm ▸ zt_A hT k_b1
  have kE_S6 : zK S6 = zK S := by rw [e231]; rfl
  have nE_S6 : zN S6 = zN S := by rw [e231]; rfl
  have R_S6 : A7 SZ S6 := a7_A hR e231 hT k_b1 n_b1 (by decide)
  refine ok_chk ((congrFun kE_S6 x0).trans r_x0) ?_
  obtain ⟨b7, p_b7, k_b7, n_b7⟩ := T_0_0 T_S6 ((congrFun kE_S6 x0).trans r_x0)
  refine ok_calR p_b7 ?_
  refine ok_chk k_b7 ?_
  refine ok_chk (ti_inN (v := t0) (n := 64) n_b7 (by omega) (by omega)) ?_
  refine ok_bnd (fun S8 e232 => ?_)
  have T_S8 : ZT S8 := e232.symm ▸ zt_A T_S6 k_b7
  have kE_S8 : zK S8 = zK S6 := by rw [e232]; rfl
  have nE_S8 : zN S8 = zN S6 := by rw [e232]; rfl
  have R_S8 : A7 SZ S8 := a7_A R_S6 e232 T_S6 k_b7 n_b7 (by decide)
  exact t_f_X0_play_118 (S := S8)  (x0 := x0) (x2 := x2) (x3 := x3) (x4 := x4) (x5 := x5) T_S8 R_S8 ((congrFun kE_S8 x0).trans ((congrFun kE_S6 x0).trans r_x0)) r_x2 r_x3 r_x4 r_x5
theorem t_f_X0_play_66 {SZ S : ZS} {x0 : Nat} {x2 : Int32} {x3 : Int32} {x4 : Int32} {x5 : Int32} (hT : ZT S) (hR : A7 SZ S) (r_x0 : zK S x0 = 0) (r_x2 : (0 : Int) ≤ x2.toInt ∧ x2.toInt ≤ (63 : Int)) (r_x3 : (0 : Int) ≤ x3.toInt ∧ x3.toInt ≤ (63 : Int)) (r_x4 : (0 : Int) ≤ x4.toInt ∧ x4.toInt ≤ (7 : Int)) (r_x5 : (0 : Int) ≤ x5.toInt ∧ x5.toInt ≤ (1 : Int)) : Ok (f_X0_play_66 x0 x2 x3 x4 x5 S) (fun o => ZT o.2 ∧ A7 SZ o.2 ∧ True) := by
  unfold f_X0_play_66
  refine ok_chk r_x0 ?_
  obtain ⟨r1, h_r1, p_r1⟩ := roz (t_f_X0_castles (x0 := x0) (x1 := x2) (x2 := x3) hT r_x0 r_x2 r_x3)
  dsimp only at p_r1
  refine ok_calR h_r1 ?_
  refine ok_if (fun c233 => ?_) (fun c233 => ?_)
  ·
    replace c233 := ti_eqP (a := r1) (b := (0 : Int32)) c233 rfl (show (0 : Int32).toInt = 0 from rfl)
    exact t_f_X0_play_118 (S := S)  (x0 := x0) (x2 := x2) (x3 := x3) (x4 := x4) (x5 := x5) hT hR r_x0 r_x2 r_x3 r_x4 r_x5
  ·
    replace c233 := ti_eqN (a := r1) (b := (0 : Int32)) c233 rfl (show (0 : Int32).toInt = 0 from rfl)
    refine ok_if (fun c234 => ?_) (fun c234 => ?_)
    ·
      replace c234 := ti_leP (a := x3) (b := x2) c234 rfl rfl
      refine ok_bnd (fun v2 e235 => ?_)
      have t_v2 : v2.toInt = x2.toInt / 8 * 8 := b_and56 e235 (by omega)
      exact t_f_X0_play_91 (S := S)  (x0 := x0) (x2 := x2) (x3 := x3) (x4 := x4) (x5 := x5) (t0 := v2) hT hR r_x0 r_x2 r_x3 r_x4 r_x5 (by omega)
    ·
      replace c234 := ti_leN (a := x3) (b := x2) c234 rfl rfl
      refine ok_bnd (fun v3 e236 => ?_)
      have t_v3 : v3.toInt = x2.toInt / 8 * 8 + 7 := b_or7 e236 (by omega)
      exact t_f_X0_play_91 (S := S)  (x0 := x0) (x2 := x2) (x3 := x3) (x4 := x4) (x5 := x5) (t0 := v3) hT hR r_x0 r_x2 r_x3 r_x4 r_x5 (by omega)
theorem t_f_X0_play_36 {SZ S : ZS} {x0 : Nat} {x2 : Int32} {x3 : Int32} {x4 : Int32} {t0 : Int32} (hT : ZT S) (hR : A7 SZ S) (r_x0 : zK S x0 = 0) (r_x2 : (0 : Int) ≤ x2.toInt ∧ x2.toInt ≤ (63 : Int)) (r_x3 : (0 : Int) ≤ x3.toInt ∧ x3.toInt ≤ (63 : Int)) (r_x4 : (0 : Int) ≤ x4.toInt ∧ x4.toInt ≤ (7 : Int)) (r_t0 : (0 : Int) ≤ t0.toInt ∧ t0.toInt ≤ (1 : Int)) : Ok (f_X0_play_36 x0 x2 x3 x4 t0 S) (fun o => ZT o.2 ∧ A7 SZ o.2 ∧ True) := by
  unfold f_X0_play_36
  refine ok_if (fun c237 => ?_) (fun c237 => ?_)
  ·
    replace c237 := ti_eqP (a := t0) (b := (0 : Int32)) c237 rfl (show (0 : Int32).toInt = 0 from rfl)
    exact t_f_X0_play_66 (S := S)  (x0 := x0) (x2 := x2) (x3 := x3) (x4 := x4) (x5 := t0) hT hR r_x0 r_x2 r_x3 r_x4 r_t0
  ·
    replace c237 := ti_eqN (a := t0) (b := (0 : Int32)) c237 rfl (show (0 : Int32).toInt = 0 from rfl)
    refine ok_chk r_x0 ?_
    have j238 := J_0_5 hT r_x0
    refine ok_if (fun c239 => ?_) (fun c239 => ?_)
    ·
      replace c239 := ti_eqP (a := x3) (b := (zI S 5 x0)) c239 rfl rfl
      refine ok_chk r_x0 ?_
      obtain ⟨b1, p_b1, k_b1, n_b1⟩ := T_0_0 hT r_x0
      refine ok_calR p_b1 ?_
      refine ok_bnd (fun v2 e240 => ?_)
      have t_v2 : v2.toInt = x2.toInt / 8 * 8 := b_and56 e240 (by omega)
      refine ok_bnd (fun v3 e241 => ?_)
      have t_v3 : v3.toInt = x3.toInt % 8 := b_and7 e241 (by omega)
      refine ok_bnd (fun v4 e242 => ?_)
      have t_v4 : v4.toInt = v2.toInt + v3.toInt := ti_add e242 rfl rfl (by omega) (by omega)
      refine ok_chk k_b1 ?_
      refine ok_chk (ti_inN (v := v4) (n := 64) n_b1 (by omega) (by omega)) ?_
      refine ok_bnd (fun S5 e243 => ?_)
      have T_S5 : ZT S5 := e243.symm ▸ zt_A hT k_b1
      have kE_S5 : zK S5 = zK S := by rw [e243]; rfl
      have nE_S5 : zN S5 = zN S := by rw [e243]; rfl
      have R_S5 : A7 SZ S5 := a7_A hR e243 hT k_b1 n_b1 (by decide)
      exact t_f_X0_play_66 (S := S5)  (x0 := x0) (x2 := x2) (x3 := x3) (x4 := x4) (x5 := t0) T_S5 R_S5 ((congrFun kE_S5 x0).trans r_x0) r_x2 r_x3 r_x4 r_t0
    ·
      replace c239 := ti_eqN (a := x3) (b := (zI S 5 x0)) c239 rfl rfl
      exact t_f_X0_play_66 (S := S)  (x0 := x0) (x2 := x2) (x3 := x3) (x4 := x4) (x5 := t0) hT hR r_x0 r_x2 r_x3 r_x4 r_t0
theorem t_f_X0_play_0 {SZ S : ZS} {x0 : Nat} {x1 : Int32} (hT : ZT S) (hR : A7 SZ S) (r_x0 : zK S x0 = 0) : Ok (f_X0_play_0 x0 x1 S) (fun o => ZT o.2 ∧ A7 SZ o.2 ∧ True) := by
  unfold f_X0_play_0
  refine ok_bnd (fun v1 e244 => ?_)
  have t_v1 := ti_and e244 (show (63 : Int32).toBitVec.toNat = 63 from rfl) (by decide)
  refine ok_bnd (fun v2 e245 => ?_)
  refine ok_bnd (fun v3 e246 => ?_)
  have t_v3 := ti_and e246 (show (63 : Int32).toBitVec.toNat = 63 from rfl) (by decide)
  refine ok_bnd (fun v4 e247 => ?_)
  refine ok_bnd (fun v5 e248 => ?_)
  have t_v5 := ti_and e248 (show (7 : Int32).toBitVec.toNat = 7 from rfl) (by decide)
  refine ok_chk r_x0 ?_
  obtain ⟨r6, h_r6, p_r6⟩ := roz (t_f_X0_kindAt (x0 := x0) (x1 := v1) hT r_x0 (by omega))
  dsimp only at p_r6
  refine ok_calR h_r6 ?_
  refine ok_if (fun c249 => ?_) (fun c249 => ?_)
  ·
    replace c249 := ti_eqP (a := r6) (b := (1 : Int32)) c249 rfl (show (1 : Int32).toInt = 1 from rfl)
    exact t_f_X0_play_36 (S := S)  (x0 := x0) (x2 := v1) (x3 := v3) (x4 := v5) (t0 := (1 : Int32)) hT hR r_x0 (by omega) (by omega) (by omega) (by decide)
  ·
    replace c249 := ti_eqN (a := r6) (b := (1 : Int32)) c249 rfl (show (1 : Int32).toInt = 1 from rfl)
    exact t_f_X0_play_36 (S := S)  (x0 := x0) (x2 := v1) (x3 := v3) (x4 := v5) (t0 := (0 : Int32)) hT hR r_x0 (by omega) (by omega) (by omega) (by decide)
theorem t_f_X0_play {SZ S : ZS} {x0 : Nat} {x1 : Int32} (hT : ZT S) (hR : A7 SZ S) (r_x0 : zK S x0 = 0) : Ok (f_X0_play x0 x1 S) (fun o => ZT o.2 ∧ A7 SZ o.2 ∧ True) := t_f_X0_play_0 hT hR r_x0
end
section
theorem zI_self (S : ZS) (j a : Nat) (v : Int32) : zI (zsI S j a v) j a = v := by
  show va_up (zI S) j (va_up (zI S j) a v) j a = v
  rw [va_up_self, va_up_self]
theorem zI_ne {S : ZS} {j a b : Nat} {v : Int32} (h : b ≠ a) : zI (zsI S j a v) j b = zI S j b := by
  show va_up (zI S) j (va_up (zI S j) a v) j b = zI S j b
  rw [va_up_self]; exact va_up_ne _ _ h
theorem ite_b {a b c d v : Int32} {x y z w : Int} (e : v = if a < b then c else d) (ha : a.toInt = x) (hb : b.toInt = y) (hc : c.toInt = z) (hd : d.toInt = w) : (x < y ∧ v.toInt = z) ∨ (y ≤ x ∧ v.toInt = w) := by
  by_cases h : a < b
  · rw [if_pos h] at e
    exact Or.inl ⟨ti_ltP h ha hb, by rw [e]; exact hc⟩
  · rw [if_neg h] at e
    exact Or.inr ⟨ti_ltN h ha hb, by rw [e]; exact hd⟩
theorem row_nz {S : ZS} {b : Nat} {n : Int} (d : b = 0 ∨ zK S b = 13) (l : n ≤ (zcap S b : Int)) (h : 0 < n) : zK S b = 13 ∧ n ≤ (zN S b : Int) := by
  by_cases e : b = 0
  · unfold zcap at l; rw [if_pos e] at l; omega
  · unfold zcap at l; rw [if_neg e] at l; exact ⟨d.resolve_left e, l⟩
theorem ti_inR {v : Int32} {m : Nat} {n : Int} (hm : n ≤ (m : Int)) (h1 : 0 ≤ v.toInt) (h2 : v.toInt < n) : ¬ (v < 0 ∨ m ≤ v.toNatClampNeg) := ti_in h1 (by omega)
theorem zSl_le : ∀ s, zSl.getD s 0 ≤ 30 := by
  intro s
  by_cases h : s < 29
  · have key : ∀ s, s < 29 → zSl.getD s 0 ≤ 30 := by decide
    exact key s h
  · have h2 : zSl[s]? = none := List.getElem?_eq_none (by show 29 ≤ s; omega)
    rw [List.getD_eq_getElem?_getD, h2]; decide
theorem ofN_b {n : Nat} (h : n ≤ 30) : (Int32.ofNat n).toInt = (n : Int) := Int32.toInt_ofNat_of_lt (by omega)
theorem t_f_J0_coder {x0 : Nat} {S : ZS} (h : x0 < 29) : f_J0_coder_7d493 x0 S = some (0, S) := by
  show f_J0_coder_7d493_0 x0 S = _
  unfold f_J0_coder_7d493_0
  have e1 : ∀ {β : Type} {a b : Option β}, m_if ((1 : Int32) = 0) a b = b := fun {β} {a b} => if_neg (by decide)
  have e2 : ∀ {β : Type} {k : Option β}, m_chk (x0 < zSn) k = k := fun {β} {k} => if_pos h
  rw [e1, e2]
  rfl
theorem t_f_J0_length_8abf5 {S : ZS} {x0 : Nat} (hT : ZT S) (r_x0 : x0 < 29) : Ok (f_J0_length_8abf5 x0 S) (fun o => o.2 = S ∧ ((0 : Int) ≤ o.1.toInt ∧ o.1.toInt ≤ (30 : Int)) ∧ (o.1.toInt = ((zSl.getD x0 0 : Nat) : Int))) := by
  show Ok (f_J0_length_8abf5_0 x0 S) _
  unfold f_J0_length_8abf5_0
  refine ok_chk r_x0 (ok_chk r_x0 ?_)
  refine ok_bnd (fun v1 e1 => ?_)
  refine ok_chk r_x0 ?_
  refine ok_calR (t_f_J0_coder r_x0) ?_
  refine ok_bnd (fun v3 e3 => ?_)
  have h1 := zSl_le x0
  have h2 : v3 = v1 := by
    rw [e3]
    have : ∀ x : Int32, x >>> ((0 : Int32) &&& 31) = x := fun x => by
      apply Int32.toBitVec_inj.mp
      show BitVec.sshiftRight x.toBitVec _ = x.toBitVec
      exact BitVec.sshiftRight_zero
    exact this v1
  have h3 : v3.toInt = ((zSl.getD x0 0 : Nat) : Int) := by rw [h2, e1]; exact ofN_b h1
  exact ok_ret ⟨rfl, by show 0 ≤ v3.toInt ∧ v3.toInt ≤ 30; omega, h3⟩
theorem t_f_J0_isLatin1 {x0 : Nat} {S : ZS} (h : x0 < 29) : f_J0_isLatin1_aae02 x0 S = some (1, S) := by
  show f_J0_isLatin1_aae02_0 x0 S = _
  unfold f_J0_isLatin1_aae02_0
  have e1 : ∀ {β : Type} {a b : Option β}, m_if ((1 : Int32) = 0) a b = b := fun {β} {a b} => if_neg (by decide)
  have e2 : ∀ {β : Type} {k : Option β}, m_chk (x0 < zSn) k = k := fun {β} {k} => if_pos h
  have e3 : ∀ {β : Type} {a b : Option β}, m_if ((0 : Int32) = 0) a b = a := fun {β} {a b} => if_pos rfl
  rw [e1, e2, e3]
  rfl
theorem t_f_J0_charAt_5068e {S : ZS} {x0 : Nat} {x1 : Int32} (hT : ZT S) (r_x0 : x0 < 29) (q0 : 0 ≤ x1.toInt ∧ x1.toInt < ((zSl.getD x0 0 : Nat) : Int)) : Ok (f_J0_charAt_5068e x0 x1 S) (fun o => o.2 = S ∧ ((0 : Int) ≤ o.1.toInt ∧ o.1.toInt ≤ (65535 : Int))) := by
  have h1 := zSl_le x0
  have hl : (Int32.ofNat (zSl.getD x0 0)).toInt = ((zSl.getD x0 0 : Nat) : Int) := ofN_b h1
  show Ok (f_J0_charAt_5068e_0 x0 x1 S) _
  unfold f_J0_charAt_5068e_0
  refine ok_chk r_x0 ?_
  refine ok_calR (t_f_J0_isLatin1 r_x0) ?_
  refine ok_ifF (show ¬ (1 : Int32) = 0 by decide) ?_
  refine ok_chk r_x0 ?_
  have key : Ok (f_J1_charAt_3b067 x0 x1 S) (fun o => o.2 = S ∧ ((0 : Int) ≤ o.1.toInt ∧ o.1.toInt ≤ (65535 : Int))) := by
    show Ok (f_J1_charAt_3b067_0 x0 x1 S) _
    unfold f_J1_charAt_3b067_0
    refine ok_chk r_x0 ?_
    refine ok_bnd (fun v1 e1 => ?_)
    have hc : f_J0_checkIndex_df160 x1 v1 S = some (0, S) := by
      have hc3 : f_J3_checkIndex_8e157 x1 v1 S = some (x1, S) := by
        show f_J3_checkIndex_8e157_0 x1 v1 S = _
        unfold f_J3_checkIndex_8e157_0
        have a1 : ¬ x1 < 0 := fun h => by have := ti_ltP h rfl (show (0 : Int32).toInt = 0 from rfl); omega
        have a2 : x1 < v1 := Int32.lt_iff_toInt_lt.mpr (by rw [e1, hl]; exact q0.2)
        have e2 : ∀ {β : Type} {a b : Option β}, m_if (x1 < 0) a b = b := fun {β} {a b} => if_neg a1
        have e3 : ∀ {β : Type} {a b : Option β}, m_if (x1 < v1) a b = a := fun {β} {a b} => if_pos a2
        rw [e2, e3]
      show m_cal (f_J3_checkIndex_8e157 x1 v1 S) _ = _
      rw [hc3]; rfl
    refine ok_calR hc ?_
    refine ok_chk r_x0 ?_
    refine ok_chk (ti_in q0.1 q0.2) ?_
    refine ok_bnd (fun v3 e3 => ?_)
    refine ok_bnd (fun v4 e4 => ?_)
    refine ok_bnd (fun v5 e5 => ?_)
    have t5 := nar_cb e5
    exact ok_chk (nar_c t5.1 t5.2) (ok_ret ⟨rfl, t5⟩)
  obtain ⟨r, h2, p⟩ := roz key
  dsimp only at p
  refine ok_calR h2 ?_
  exact ok_chk (nar_c (v := r) p.1 p.2) (ok_ret ⟨rfl, p⟩)
theorem t_f_J1_indexOfChar_7 {S : ZS} {x0 : Nat} (r_x0 : x0 < 29) : ∀ (n : Nat) (x3 x4 x5 : Int32), (0 ≤ x5.toInt ∧ x5.toInt ≤ 31) → x3.toInt ≤ ((zSl.getD x0 0 : Nat) : Int) → 32 - x5.toInt < (n : Int) → Ok (f_J1_indexOfChar_4cfef_7 n x0 x3 x4 x5 S) (fun o => o.2 = S ∧ ((-1 : Int) ≤ o.1.toInt ∧ o.1.toInt ≤ (29 : Int))) := by
  intro n
  induction n with
  | zero => intro x3 x4 x5 h1 h2 h3; omega
  | succ n ih =>
    intro x3 x4 x5 h1 h2 h3
    have hs := zSl_le x0
    show Ok (f_J1_indexOfChar_4cfef_7s (f_J1_indexOfChar_4cfef_7 n) x0 x3 x4 x5 S) _
    unfold f_J1_indexOfChar_4cfef_7s
    refine ok_if (fun _ => ok_ret ⟨rfl, by dsimp only; decide⟩) (fun c => ?_)
    replace c := ti_leN c rfl rfl
    refine ok_chk r_x0 ?_
    refine ok_chk (ti_in (by omega) (by omega)) ?_
    refine ok_bnd (fun v1 e1 => ?_)
    refine ok_if (fun _ => ok_ret ⟨rfl, by show -1 ≤ x5.toInt ∧ x5.toInt ≤ 29; omega⟩) (fun _ => ?_)
    refine ok_bnd (fun v2 e2 => ?_)
    have t2 := ti_add e2 rfl (show (1 : Int32).toInt = 1 from rfl) (by omega) (by omega)
    exact ih x3 x4 v2 (by omega) h2 (by omega)
theorem t_f_J0_indexOf_0f7a4 {S : ZS} {x0 : Nat} {x1 : Int32} (hT : ZT S) (r_x0 : x0 < 29) : Ok (f_J0_indexOf_0f7a4 x0 x1 S) (fun o => o.2 = S ∧ ((-1 : Int) ≤ o.1.toInt ∧ o.1.toInt ≤ (29 : Int))) := by
  have h1 := zSl_le x0
  have hl : (Int32.ofNat (zSl.getD x0 0)).toInt = ((zSl.getD x0 0 : Nat) : Int) := ofN_b h1
  have k1 : ∀ x3 : Int32, Ok (f_J1_indexOf_4cfef x0 x1 0 x3 S) (fun o => o.2 = S ∧ ((-1 : Int) ≤ o.1.toInt ∧ o.1.toInt ≤ (29 : Int))) := by
    intro x3
    show Ok (f_J1_indexOf_4cfef_0 x0 x1 0 x3 S) _
    unfold f_J1_indexOf_4cfef_0
    have hc : ∃ r, f_J1_canEncode_9a6ad x1 S = some (r, S) := by
      have : Ok (f_J1_canEncode_9a6ad_0 x1 S) (fun o => o.2 = S ∧ True) := by
        unfold f_J1_canEncode_9a6ad_0
        have c15 : Ok (f_J1_canEncode_9a6ad_15 S) (fun o => o.2 = S ∧ True) := ⟨(0, S), by unfold f_J1_canEncode_9a6ad_15 f_J1_canEncode_9a6ad_16; exact if_pos (by decide), rfl, trivial⟩
        have c16 : Ok (f_J1_canEncode_9a6ad_16 1 S) (fun o => o.2 = S ∧ True) := ⟨(1, S), by unfold f_J1_canEncode_9a6ad_16; exact if_pos (by decide), rfl, trivial⟩
        exact ok_if (fun _ => c15) (fun _ => ok_if (fun _ => c15) (fun _ => c16))
      obtain ⟨r, h2, -⟩ := roz this
      exact ⟨r, h2⟩
    obtain ⟨r, hr⟩ := hc
    refine ok_calR hr ?_
    refine ok_if (fun _ => ok_ret ⟨rfl, by dsimp only; decide⟩) (fun _ => ?_)
    refine ok_bnd (fun v2 e2 => ?_)
    have t2 : v2 = 0 := by rw [e2]; decide
    refine ok_chk r_x0 ?_
    refine ok_bnd (fun v3 e3 => ?_)
    refine ok_bnd (fun v4 e4 => ?_)
    have hv3 : v3.toInt = ((zSl.getD x0 0 : Nat) : Int) := by rw [e3]; exact hl
    have t4 := ite_b (a := v3) (b := x3) (c := v3) (d := x3) e4 hv3 rfl hv3 rfl
    refine ok_if (fun c => ?_) (fun _ => ok_ret ⟨rfl, by dsimp only; decide⟩)
    have k2 : Ok (f_J1_indexOfChar_4cfef x0 x1 v2 v4 S) (fun o => o.2 = S ∧ ((-1 : Int) ≤ o.1.toInt ∧ o.1.toInt ≤ (29 : Int))) := by
      show Ok (f_J1_indexOfChar_4cfef_0 x0 x1 v2 v4 S) _
      unfold f_J1_indexOfChar_4cfef_0
      refine ok_bnd (fun w1 _ => ?_)
      have z : (0 : Int32).toInt = 0 := rfl
      exact t_f_J1_indexOfChar_7 r_x0 mFuel v4 w1 v2 (by rw [t2, z]; decide) (by omega) (by rw [t2, z]; show (32 : Int) - 0 < ((200000 : Nat) : Int); omega)
    obtain ⟨q, h2, p⟩ := roz k2
    exact ok_calR h2 (ok_ret ⟨rfl, p⟩)
  show Ok (f_J0_indexOf_0f7a4_0 x0 x1 S) _
  unfold f_J0_indexOf_0f7a4_0
  refine ok_chk r_x0 ?_
  have k3 : Ok (f_J0_indexOf_7cf53 x0 x1 0 S) (fun o => o.2 = S ∧ ((-1 : Int) ≤ o.1.toInt ∧ o.1.toInt ≤ (29 : Int))) := by
    show Ok (f_J0_indexOf_7cf53_0 x0 x1 0 S) _
    unfold f_J0_indexOf_7cf53_0
    refine ok_chk r_x0 ?_
    refine ok_calR (t_f_J0_isLatin1 r_x0) ?_
    refine ok_ifF (show ¬ (1 : Int32) = 0 by decide) ?_
    refine ok_chk r_x0 (ok_chk r_x0 ?_)
    obtain ⟨r, h2, -⟩ := roz (t_f_J0_length_8abf5 hT r_x0)
    refine ok_calR h2 ?_
    obtain ⟨q, h3, p⟩ := roz (k1 r)
    exact ok_calR h3 (ok_ret ⟨rfl, p⟩)
  obtain ⟨q, h3, p⟩ := roz k3
  exact ok_calR h3 (ok_ret ⟨rfl, p⟩)
end
section
theorem t_f_X11_isLetter_0 {S : ZS} {x0 : Int32} (hT : ZT S) : Ok (f_X11_isLetter_0 x0 S) (fun o => o.2 = S ∧ ((0 : Int) ≤ o.1.toInt ∧ o.1.toInt ≤ (1 : Int)) ∧ ((o.1.toInt = 1 → 65 ≤ x0.toInt))) := by
  unfold f_X11_isLetter_0
  refine ok_if (fun c1 => ?_) (fun c1 => ?_)
  ·
    replace c1 := ti_ltP (a := x0) (b := (97 : Int32)) c1 rfl (show (97 : Int32).toInt = 97 from rfl)
    unfold f_X11_isLetter_12
    refine ok_if (fun c2 => ?_) (fun c2 => ?_)
    ·
      replace c2 := ti_ltP (a := x0) (b := (65 : Int32)) c2 rfl (show (65 : Int32).toInt = 65 from rfl)
      unfold f_X11_isLetter_28
      unfold f_X11_isLetter_29
      refine ok_chk (by decide) ?_
      exact ok_ret ⟨rfl, (show (0 : Int) ≤ (0 : Int32).toInt ∧ (0 : Int32).toInt ≤ (1 : Int) from (by decide)), (by show ((0 : Int32).toInt = 1 → 65 ≤ x0.toInt); have z : (0 : Int32).toInt = 0 := rfl; omega)⟩
    ·
      replace c2 := ti_ltN (a := x0) (b := (65 : Int32)) c2 rfl (show (65 : Int32).toInt = 65 from rfl)
      refine ok_if (fun c3 => ?_) (fun c3 => ?_)
      ·
        replace c3 := ti_ltP (a := (90 : Int32)) (b := x0) c3 (show (90 : Int32).toInt = 90 from rfl) rfl
        unfold f_X11_isLetter_28
        unfold f_X11_isLetter_29
        refine ok_chk (by decide) ?_
        exact ok_ret ⟨rfl, (show (0 : Int) ≤ (0 : Int32).toInt ∧ (0 : Int32).toInt ≤ (1 : Int) from (by decide)), (by show ((0 : Int32).toInt = 1 → 65 ≤ x0.toInt); have z : (0 : Int32).toInt = 0 := rfl; omega)⟩
      ·
        replace c3 := ti_ltN (a := (90 : Int32)) (b := x0) c3 (show (90 : Int32).toInt = 90 from rfl) rfl
        unfold f_X11_isLetter_24
        unfold f_X11_isLetter_29
        refine ok_chk (by decide) ?_
        exact ok_ret ⟨rfl, (show (0 : Int) ≤ (1 : Int32).toInt ∧ (1 : Int32).toInt ≤ (1 : Int) from (by decide)), (by show ((1 : Int32).toInt = 1 → 65 ≤ x0.toInt); have z : (1 : Int32).toInt = 1 := rfl; omega)⟩
  ·
    replace c1 := ti_ltN (a := x0) (b := (97 : Int32)) c1 rfl (show (97 : Int32).toInt = 97 from rfl)
    refine ok_if (fun c4 => ?_) (fun c4 => ?_)
    ·
      replace c4 := ti_leP (a := x0) (b := (122 : Int32)) c4 rfl (show (122 : Int32).toInt = 122 from rfl)
      unfold f_X11_isLetter_24
      unfold f_X11_isLetter_29
      refine ok_chk (by decide) ?_
      exact ok_ret ⟨rfl, (show (0 : Int) ≤ (1 : Int32).toInt ∧ (1 : Int32).toInt ≤ (1 : Int) from (by decide)), (by show ((1 : Int32).toInt = 1 → 65 ≤ x0.toInt); have z : (1 : Int32).toInt = 1 := rfl; omega)⟩
    ·
      replace c4 := ti_leN (a := x0) (b := (122 : Int32)) c4 rfl (show (122 : Int32).toInt = 122 from rfl)
      unfold f_X11_isLetter_12
      refine ok_if (fun c5 => ?_) (fun c5 => ?_)
      ·
        replace c5 := ti_ltP (a := x0) (b := (65 : Int32)) c5 rfl (show (65 : Int32).toInt = 65 from rfl)
        unfold f_X11_isLetter_28
        unfold f_X11_isLetter_29
        refine ok_chk (by decide) ?_
        exact ok_ret ⟨rfl, (show (0 : Int) ≤ (0 : Int32).toInt ∧ (0 : Int32).toInt ≤ (1 : Int) from (by decide)), (by show ((0 : Int32).toInt = 1 → 65 ≤ x0.toInt); have z : (0 : Int32).toInt = 0 := rfl; omega)⟩
      ·
        replace c5 := ti_ltN (a := x0) (b := (65 : Int32)) c5 rfl (show (65 : Int32).toInt = 65 from rfl)
        refine ok_if (fun c6 => ?_) (fun c6 => ?_)
        ·
          replace c6 := ti_ltP (a := (90 : Int32)) (b := x0) c6 (show (90 : Int32).toInt = 90 from rfl) rfl
          unfold f_X11_isLetter_28
          unfold f_X11_isLetter_29
          refine ok_chk (by decide) ?_
          exact ok_ret ⟨rfl, (show (0 : Int) ≤ (0 : Int32).toInt ∧ (0 : Int32).toInt ≤ (1 : Int) from (by decide)), (by show ((0 : Int32).toInt = 1 → 65 ≤ x0.toInt); have z : (0 : Int32).toInt = 0 := rfl; omega)⟩
        ·
          replace c6 := ti_ltN (a := (90 : Int32)) (b := x0) c6 (show (90 : Int32).toInt = 90 from rfl) rfl
          unfold f_X11_isLetter_24
          unfold f_X11_isLetter_29
          refine ok_chk (by decide) ?_
          exact ok_ret ⟨rfl, (show (0 : Int) ≤ (1 : Int32).toInt ∧ (1 : Int32).toInt ≤ (1 : Int) from (by decide)), (by show ((1 : Int32).toInt = 1 → 65 ≤ x0.toInt); have z : (1 : Int32).toInt = 1 := rfl; omega)⟩
theorem t_f_X11_isLetter {S : ZS} {x0 : Int32} (hT : ZT S) : Ok (f_X11_isLetter x0 S) (fun o => o.2 = S ∧ ((0 : Int) ≤ o.1.toInt ∧ o.1.toInt ≤ (1 : Int)) ∧ ((o.1.toInt = 1 → 65 ≤ x0.toInt))) := t_f_X11_isLetter_0 hT 
theorem t_f_X11_isDigit_0 {S : ZS} {x0 : Int32} (hT : ZT S) : Ok (f_X11_isDigit_0 x0 S) (fun o => o.2 = S ∧ ((0 : Int) ≤ o.1.toInt ∧ o.1.toInt ≤ (1 : Int)) ∧ ((o.1.toInt = 1 → 48 ≤ x0.toInt ∧ x0.toInt ≤ 57))) := by
  unfold f_X11_isDigit_0
  refine ok_if (fun c7 => ?_) (fun c7 => ?_)
  ·
    replace c7 := ti_ltP (a := x0) (b := (48 : Int32)) c7 rfl (show (48 : Int32).toInt = 48 from rfl)
    unfold f_X11_isDigit_16
    unfold f_X11_isDigit_17
    refine ok_chk (by decide) ?_
    exact ok_ret ⟨rfl, (show (0 : Int) ≤ (0 : Int32).toInt ∧ (0 : Int32).toInt ≤ (1 : Int) from (by decide)), (by show ((0 : Int32).toInt = 1 → 48 ≤ x0.toInt ∧ x0.toInt ≤ 57); have z : (0 : Int32).toInt = 0 := rfl; omega)⟩
  ·
    replace c7 := ti_ltN (a := x0) (b := (48 : Int32)) c7 rfl (show (48 : Int32).toInt = 48 from rfl)
    refine ok_if (fun c8 => ?_) (fun c8 => ?_)
    ·
      replace c8 := ti_ltP (a := (57 : Int32)) (b := x0) c8 (show (57 : Int32).toInt = 57 from rfl) rfl
      unfold f_X11_isDigit_16
      unfold f_X11_isDigit_17
      refine ok_chk (by decide) ?_
      exact ok_ret ⟨rfl, (show (0 : Int) ≤ (0 : Int32).toInt ∧ (0 : Int32).toInt ≤ (1 : Int) from (by decide)), (by show ((0 : Int32).toInt = 1 → 48 ≤ x0.toInt ∧ x0.toInt ≤ 57); have z : (0 : Int32).toInt = 0 := rfl; omega)⟩
    ·
      replace c8 := ti_ltN (a := (57 : Int32)) (b := x0) c8 (show (57 : Int32).toInt = 57 from rfl) rfl
      unfold f_X11_isDigit_17
      refine ok_chk (by decide) ?_
      exact ok_ret ⟨rfl, (show (0 : Int) ≤ (1 : Int32).toInt ∧ (1 : Int32).toInt ≤ (1 : Int) from (by decide)), (by show ((1 : Int32).toInt = 1 → 48 ≤ x0.toInt ∧ x0.toInt ≤ 57); have z : (1 : Int32).toInt = 1 := rfl; omega)⟩
theorem t_f_X11_isDigit {S : ZS} {x0 : Int32} (hT : ZT S) : Ok (f_X11_isDigit x0 S) (fun o => o.2 = S ∧ ((0 : Int) ≤ o.1.toInt ∧ o.1.toInt ≤ (1 : Int)) ∧ ((o.1.toInt = 1 → 48 ≤ x0.toInt ∧ x0.toInt ≤ 57))) := t_f_X11_isDigit_0 hT 
theorem t_f_X11_isRank_0 {S : ZS} {x0 : Int32} (hT : ZT S) : Ok (f_X11_isRank_0 x0 S) (fun o => o.2 = S ∧ ((0 : Int) ≤ o.1.toInt ∧ o.1.toInt ≤ (1 : Int)) ∧ ((o.1.toInt = 1 → 49 ≤ x0.toInt ∧ x0.toInt ≤ 56))) := by
  unfold f_X11_isRank_0
  refine ok_if (fun c9 => ?_) (fun c9 => ?_)
  ·
    replace c9 := ti_ltP (a := x0) (b := (49 : Int32)) c9 rfl (show (49 : Int32).toInt = 49 from rfl)
    unfold f_X11_isRank_16
    unfold f_X11_isRank_17
    refine ok_chk (by decide) ?_
    exact ok_ret ⟨rfl, (show (0 : Int) ≤ (0 : Int32).toInt ∧ (0 : Int32).toInt ≤ (1 : Int) from (by decide)), (by show ((0 : Int32).toInt = 1 → 49 ≤ x0.toInt ∧ x0.toInt ≤ 56); have z : (0 : Int32).toInt = 0 := rfl; omega)⟩
  ·
    replace c9 := ti_ltN (a := x0) (b := (49 : Int32)) c9 rfl (show (49 : Int32).toInt = 49 from rfl)
    refine ok_if (fun c10 => ?_) (fun c10 => ?_)
    ·
      replace c10 := ti_ltP (a := (56 : Int32)) (b := x0) c10 (show (56 : Int32).toInt = 56 from rfl) rfl
      unfold f_X11_isRank_16
      unfold f_X11_isRank_17
      refine ok_chk (by decide) ?_
      exact ok_ret ⟨rfl, (show (0 : Int) ≤ (0 : Int32).toInt ∧ (0 : Int32).toInt ≤ (1 : Int) from (by decide)), (by show ((0 : Int32).toInt = 1 → 49 ≤ x0.toInt ∧ x0.toInt ≤ 56); have z : (0 : Int32).toInt = 0 := rfl; omega)⟩
    ·
      replace c10 := ti_ltN (a := (56 : Int32)) (b := x0) c10 (show (56 : Int32).toInt = 56 from rfl) rfl
      unfold f_X11_isRank_17
      refine ok_chk (by decide) ?_
      exact ok_ret ⟨rfl, (show (0 : Int) ≤ (1 : Int32).toInt ∧ (1 : Int32).toInt ≤ (1 : Int) from (by decide)), (by show ((1 : Int32).toInt = 1 → 49 ≤ x0.toInt ∧ x0.toInt ≤ 56); have z : (1 : Int32).toInt = 1 := rfl; omega)⟩
theorem t_f_X11_isRank {S : ZS} {x0 : Int32} (hT : ZT S) : Ok (f_X11_isRank x0 S) (fun o => o.2 = S ∧ ((0 : Int) ≤ o.1.toInt ∧ o.1.toInt ≤ (1 : Int)) ∧ ((o.1.toInt = 1 → 49 ≤ x0.toInt ∧ x0.toInt ≤ 56))) := t_f_X11_isRank_0 hT 
theorem t_f_X11_isFile_0 {S : ZS} {x0 : Int32} (hT : ZT S) : Ok (f_X11_isFile_0 x0 S) (fun o => o.2 = S ∧ ((0 : Int) ≤ o.1.toInt ∧ o.1.toInt ≤ (1 : Int)) ∧ ((o.1.toInt = 1 → 97 ≤ x0.toInt ∧ x0.toInt ≤ 104))) := by
  unfold f_X11_isFile_0
  refine ok_if (fun c11 => ?_) (fun c11 => ?_)
  ·
    replace c11 := ti_ltP (a := x0) (b := (97 : Int32)) c11 rfl (show (97 : Int32).toInt = 97 from rfl)
    unfold f_X11_isFile_16
    unfold f_X11_isFile_17
    refine ok_chk (by decide) ?_
    exact ok_ret ⟨rfl, (show (0 : Int) ≤ (0 : Int32).toInt ∧ (0 : Int32).toInt ≤ (1 : Int) from (by decide)), (by show ((0 : Int32).toInt = 1 → 97 ≤ x0.toInt ∧ x0.toInt ≤ 104); have z : (0 : Int32).toInt = 0 := rfl; omega)⟩
  ·
    replace c11 := ti_ltN (a := x0) (b := (97 : Int32)) c11 rfl (show (97 : Int32).toInt = 97 from rfl)
    refine ok_if (fun c12 => ?_) (fun c12 => ?_)
    ·
      replace c12 := ti_ltP (a := (104 : Int32)) (b := x0) c12 (show (104 : Int32).toInt = 104 from rfl) rfl
      unfold f_X11_isFile_16
      unfold f_X11_isFile_17
      refine ok_chk (by decide) ?_
      exact ok_ret ⟨rfl, (show (0 : Int) ≤ (0 : Int32).toInt ∧ (0 : Int32).toInt ≤ (1 : Int) from (by decide)), (by show ((0 : Int32).toInt = 1 → 97 ≤ x0.toInt ∧ x0.toInt ≤ 104); have z : (0 : Int32).toInt = 0 := rfl; omega)⟩
    ·
      replace c12 := ti_ltN (a := (104 : Int32)) (b := x0) c12 (show (104 : Int32).toInt = 104 from rfl) rfl
      unfold f_X11_isFile_17
      refine ok_chk (by decide) ?_
      exact ok_ret ⟨rfl, (show (0 : Int) ≤ (1 : Int32).toInt ∧ (1 : Int32).toInt ≤ (1 : Int) from (by decide)), (by show ((1 : Int32).toInt = 1 → 97 ≤ x0.toInt ∧ x0.toInt ≤ 104); have z : (1 : Int32).toInt = 1 := rfl; omega)⟩
theorem t_f_X11_isFile {S : ZS} {x0 : Int32} (hT : ZT S) : Ok (f_X11_isFile x0 S) (fun o => o.2 = S ∧ ((0 : Int) ≤ o.1.toInt ∧ o.1.toInt ≤ (1 : Int)) ∧ ((o.1.toInt = 1 → 97 ≤ x0.toInt ∧ x0.toInt ≤ 104))) := t_f_X11_isFile_0 hT 
theorem t_f_X11_squareOf_0 {S : ZS} {x0 : Int32} {x1 : Int32} (hT : ZT S) : Ok (f_X11_squareOf_0 x0 x1 S) (fun o => o.2 = S ∧ ((-1 : Int) ≤ o.1.toInt ∧ o.1.toInt ≤ (63 : Int))) := by
  unfold f_X11_squareOf_0
  obtain ⟨r1, h_r1, p_r1⟩ := roz (t_f_X11_isFile (x0 := x0) hT )
  dsimp only at p_r1
  refine ok_calR h_r1 ?_
  refine ok_if (fun c13 => ?_) (fun c13 => ?_)
  ·
    replace c13 := ti_eqP (a := r1) (b := (0 : Int32)) c13 rfl (show (0 : Int32).toInt = 0 from rfl)
    unfold f_X11_squareOf_29
    unfold f_X11_squareOf_30
    exact ok_ret ⟨rfl, (show (-1 : Int) ≤ (-1 : Int32).toInt ∧ (-1 : Int32).toInt ≤ (63 : Int) from (by decide))⟩
  ·
    replace c13 := ti_eqN (a := r1) (b := (0 : Int32)) c13 rfl (show (0 : Int32).toInt = 0 from rfl)
    obtain ⟨r2, h_r2, p_r2⟩ := roz (t_f_X11_isRank (x0 := x1) hT )
    dsimp only at p_r2
    refine ok_calR h_r2 ?_
    refine ok_if (fun c14 => ?_) (fun c14 => ?_)
    ·
      replace c14 := ti_eqP (a := r2) (b := (0 : Int32)) c14 rfl (show (0 : Int32).toInt = 0 from rfl)
      unfold f_X11_squareOf_29
      unfold f_X11_squareOf_30
      exact ok_ret ⟨rfl, (show (-1 : Int) ≤ (-1 : Int32).toInt ∧ (-1 : Int32).toInt ≤ (63 : Int) from (by decide))⟩
    ·
      replace c14 := ti_eqN (a := r2) (b := (0 : Int32)) c14 rfl (show (0 : Int32).toInt = 0 from rfl)
      refine ok_bnd (fun v3 e15 => ?_)
      have t_v3 : v3.toInt = x0.toInt - 97 := ti_sub e15 rfl (show (97 : Int32).toInt = 97 from rfl) (by omega) (by omega)
      refine ok_bnd (fun v4 e16 => ?_)
      have t_v4 : v4.toInt = x1.toInt - 49 := ti_sub e16 rfl (show (49 : Int32).toInt = 49 from rfl) (by omega) (by omega)
      refine ok_bnd (fun v5 e17 => ?_)
      have t_v5 : v5.toInt = 8 * v4.toInt := ti_mul e17 (show (8 : Int32).toInt = 8 from rfl) rfl (by omega) (by omega)
      refine ok_bnd (fun v6 e18 => ?_)
      have t_v6 : v6.toInt = v3.toInt + v5.toInt := ti_add e18 rfl rfl (by omega) (by omega)
      unfold f_X11_squareOf_30
      exact ok_ret ⟨rfl, (show (-1 : Int) ≤ v6.toInt ∧ v6.toInt ≤ (63 : Int) from (by omega))⟩
theorem t_f_X11_squareOf {S : ZS} {x0 : Int32} {x1 : Int32} (hT : ZT S) : Ok (f_X11_squareOf x0 x1 S) (fun o => o.2 = S ∧ ((-1 : Int) ≤ o.1.toInt ∧ o.1.toInt ≤ (63 : Int))) := t_f_X11_squareOf_0 hT 
theorem t_f_X11_kindOf_0 {S : ZS} {x0 : Int32} (hT : ZT S) : Ok (f_X11_kindOf_0 x0 S) (fun o => o.2 = S ∧ ((0 : Int) ≤ o.1.toInt ∧ o.1.toInt ≤ (30 : Int))) := by
  unfold f_X11_kindOf_0
  refine ok_chk (by decide) ?_
  obtain ⟨r1, h_r1, p_r1⟩ := roz (t_f_J0_indexOf_0f7a4 (x0 := 9) (x1 := x0) hT (by decide))
  dsimp only at p_r1
  refine ok_calR h_r1 ?_
  refine ok_bnd (fun v2 e19 => ?_)
  have t_v2 : v2.toInt = r1.toInt + 1 := ti_add e19 rfl (show (1 : Int32).toInt = 1 from rfl) (by omega) (by omega)
  exact ok_ret ⟨rfl, (show (0 : Int) ≤ v2.toInt ∧ v2.toInt ≤ (30 : Int) from (by omega))⟩
theorem t_f_X11_kindOf {S : ZS} {x0 : Int32} (hT : ZT S) : Ok (f_X11_kindOf x0 S) (fun o => o.2 = S ∧ ((0 : Int) ≤ o.1.toInt ∧ o.1.toInt ≤ (30 : Int))) := t_f_X11_kindOf_0 hT 
theorem t_f_X11_letterOf_0 {S : ZS} {x0 : Int32} (hT : ZT S) : Ok (f_X11_letterOf_0 x0 S) (fun o => o.2 = S ∧ ((0 : Int) ≤ o.1.toInt ∧ o.1.toInt ≤ (65535 : Int))) := by
  unfold f_X11_letterOf_0
  refine ok_if (fun c20 => ?_) (fun c20 => ?_)
  ·
    replace c20 := ti_ltP (a := x0) (b := (1 : Int32)) c20 rfl (show (1 : Int32).toInt = 1 from rfl)
    unfold f_X11_letterOf_23
    unfold f_X11_letterOf_25
    refine ok_chk (by decide) ?_
    exact ok_ret ⟨rfl, (show (0 : Int) ≤ (63 : Int32).toInt ∧ (63 : Int32).toInt ≤ (65535 : Int) from (by decide))⟩
  ·
    replace c20 := ti_ltN (a := x0) (b := (1 : Int32)) c20 rfl (show (1 : Int32).toInt = 1 from rfl)
    refine ok_if (fun c21 => ?_) (fun c21 => ?_)
    ·
      replace c21 := ti_ltP (a := (6 : Int32)) (b := x0) c21 (show (6 : Int32).toInt = 6 from rfl) rfl
      unfold f_X11_letterOf_23
      unfold f_X11_letterOf_25
      refine ok_chk (by decide) ?_
      exact ok_ret ⟨rfl, (show (0 : Int) ≤ (63 : Int32).toInt ∧ (63 : Int32).toInt ≤ (65535 : Int) from (by decide))⟩
    ·
      replace c21 := ti_ltN (a := (6 : Int32)) (b := x0) c21 (show (6 : Int32).toInt = 6 from rfl) rfl
      refine ok_bnd (fun v1 e22 => ?_)
      have t_v1 : v1.toInt = x0.toInt - 1 := ti_sub e22 rfl (show (1 : Int32).toInt = 1 from rfl) (by omega) (by omega)
      refine ok_chk (by decide) ?_
      obtain ⟨r2, h_r2, p_r2⟩ := roz (t_f_J0_charAt_5068e (x0 := 9) (x1 := v1) hT (by decide) (by have z : zSl.getD 9 0 = 6 := rfl; omega))
      dsimp only at p_r2
      refine ok_calR h_r2 ?_
      unfold f_X11_letterOf_25
      refine ok_chk (nar_c (v := r2) (by omega) (by omega)) ?_
      exact ok_ret ⟨rfl, (show (0 : Int) ≤ r2.toInt ∧ r2.toInt ≤ (65535 : Int) from (by omega))⟩
theorem t_f_X11_letterOf {S : ZS} {x0 : Int32} (hT : ZT S) : Ok (f_X11_letterOf x0 S) (fun o => o.2 = S ∧ ((0 : Int) ≤ o.1.toInt ∧ o.1.toInt ≤ (65535 : Int))) := t_f_X11_letterOf_0 hT 
theorem t_f_X11_fileLetter_0 {S : ZS} {x0 : Int32} (hT : ZT S) (r_x0 : (0 : Int) ≤ x0.toInt ∧ x0.toInt ≤ (63 : Int)) : Ok (f_X11_fileLetter_0 x0 S) (fun o => o.2 = S ∧ ((0 : Int) ≤ o.1.toInt ∧ o.1.toInt ≤ (65535 : Int))) := by
  unfold f_X11_fileLetter_0
  refine ok_bnd (fun v1 e23 => ?_)
  have t_v1 : v1.toInt = x0.toInt % 8 := b_and7 e23 (by omega)
  refine ok_bnd (fun v2 e24 => ?_)
  have t_v2 : v2.toInt = 97 + v1.toInt := ti_add e24 (show (97 : Int32).toInt = 97 from rfl) rfl (by omega) (by omega)
  refine ok_bnd (fun v3 e25 => ?_)
  have t_v3 : v3.toInt = v2.toInt := by rw [e25]; exact nar_ci rfl (by omega) (by omega)
  refine ok_chk (nar_c (v := v3) (by omega) (by omega)) ?_
  exact ok_ret ⟨rfl, (show (0 : Int) ≤ v3.toInt ∧ v3.toInt ≤ (65535 : Int) from (by omega))⟩
theorem t_f_X11_fileLetter {S : ZS} {x0 : Int32} (hT : ZT S) (r_x0 : (0 : Int) ≤ x0.toInt ∧ x0.toInt ≤ (63 : Int)) : Ok (f_X11_fileLetter x0 S) (fun o => o.2 = S ∧ ((0 : Int) ≤ o.1.toInt ∧ o.1.toInt ≤ (65535 : Int))) := t_f_X11_fileLetter_0 hT r_x0
theorem t_f_X11_rankDigit_0 {S : ZS} {x0 : Int32} (hT : ZT S) (r_x0 : (0 : Int) ≤ x0.toInt ∧ x0.toInt ≤ (63 : Int)) : Ok (f_X11_rankDigit_0 x0 S) (fun o => o.2 = S ∧ ((0 : Int) ≤ o.1.toInt ∧ o.1.toInt ≤ (65535 : Int))) := by
  unfold f_X11_rankDigit_0
  refine ok_bnd (fun v1 e26 => ?_)
  have t_v1 : v1.toInt = x0.toInt / 8 := b_sh3 e26 (by omega)
  refine ok_bnd (fun v2 e27 => ?_)
  have t_v2 : v2.toInt = 49 + v1.toInt := ti_add e27 (show (49 : Int32).toInt = 49 from rfl) rfl (by omega) (by omega)
  refine ok_bnd (fun v3 e28 => ?_)
  have t_v3 : v3.toInt = v2.toInt := by rw [e28]; exact nar_ci rfl (by omega) (by omega)
  refine ok_chk (nar_c (v := v3) (by omega) (by omega)) ?_
  exact ok_ret ⟨rfl, (show (0 : Int) ≤ v3.toInt ∧ v3.toInt ≤ (65535 : Int) from (by omega))⟩
theorem t_f_X11_rankDigit {S : ZS} {x0 : Int32} (hT : ZT S) (r_x0 : (0 : Int) ≤ x0.toInt ∧ x0.toInt ≤ (63 : Int)) : Ok (f_X11_rankDigit x0 S) (fun o => o.2 = S ∧ ((0 : Int) ≤ o.1.toInt ∧ o.1.toInt ≤ (65535 : Int))) := t_f_X11_rankDigit_0 hT r_x0
theorem t_f_X11_resultSign_0 {S : ZS} {x0 : Int32} (hT : ZT S) : Ok (f_X11_resultSign_0 x0 S) (fun o => o.2 = S ∧ (o.1 < 29)) := by
  unfold f_X11_resultSign_0
  refine ok_if (fun c29 => ?_) (fun c29 => ?_)
  ·
    replace c29 := ti_eqP (a := x0) (b := (1 : Int32)) c29 rfl (show (1 : Int32).toInt = 1 from rfl)
    exact ok_ret ⟨rfl, (show 3 < 29 by decide)⟩
  ·
    replace c29 := ti_eqN (a := x0) (b := (1 : Int32)) c29 rfl (show (1 : Int32).toInt = 1 from rfl)
    refine ok_if (fun c30 => ?_) (fun c30 => ?_)
    ·
      replace c30 := ti_eqP (a := x0) (b := (2 : Int32)) c30 rfl (show (2 : Int32).toInt = 2 from rfl)
      exact ok_ret ⟨rfl, (show 4 < 29 by decide)⟩
    ·
      replace c30 := ti_eqN (a := x0) (b := (2 : Int32)) c30 rfl (show (2 : Int32).toInt = 2 from rfl)
      refine ok_if (fun c31 => ?_) (fun c31 => ?_)
      ·
        replace c31 := ti_eqP (a := x0) (b := (3 : Int32)) c31 rfl (show (3 : Int32).toInt = 3 from rfl)
        exact ok_ret ⟨rfl, (show 5 < 29 by decide)⟩
      ·
        replace c31 := ti_eqN (a := x0) (b := (3 : Int32)) c31 rfl (show (3 : Int32).toInt = 3 from rfl)
        exact ok_ret ⟨rfl, (show 6 < 29 by decide)⟩
theorem t_f_X11_resultSign {S : ZS} {x0 : Int32} (hT : ZT S) : Ok (f_X11_resultSign x0 S) (fun o => o.2 = S ∧ (o.1 < 29)) := t_f_X11_resultSign_0 hT 
theorem t_f_X6_size_0 {S : ZS} {x0 : Nat} (hT : ZT S) (r_x0 : zK S x0 = 6) : Ok (f_X6_size_0 x0 S) (fun o => o.2 = S ∧ ((0 : Int) ≤ o.1.toInt ∧ o.1.toInt ≤ (90000 : Int)) ∧ (o.1 = zI S 1 x0)) := by
  unfold f_X6_size_0
  refine ok_chk r_x0 ?_
  have j32 := J_6_1 hT r_x0
  exact ok_ret ⟨rfl, (show (0 : Int) ≤ (zI S 1 x0).toInt ∧ (zI S 1 x0).toInt ≤ (90000 : Int) from (by omega)), (by show (zI S 1 x0) = zI S 1 x0; exact rfl)⟩
theorem t_f_X6_size {S : ZS} {x0 : Nat} (hT : ZT S) (r_x0 : zK S x0 = 6) : Ok (f_X6_size x0 S) (fun o => o.2 = S ∧ ((0 : Int) ≤ o.1.toInt ∧ o.1.toInt ≤ (90000 : Int)) ∧ (o.1 = zI S 1 x0)) := t_f_X6_size_0 hT r_x0
theorem t_f_X6_keep_0 {SZ S : ZS} {x0 : Nat} {x1 : Int32} (hT : ZT S) (hR : A7 SZ S) (r_x0 : zK S x0 = 6) (q0 : rc x0 ≠ 2) : Ok (f_X6_keep_0 x0 x1 S) (fun o => ZT o.2 ∧ A7 SZ o.2 ∧ True) := by
  unfold f_X6_keep_0
  refine ok_if (fun c33 => ?_) (fun c33 => ?_)
  ·
    replace c33 := ti_ltP (a := x1) (b := (0 : Int32)) c33 rfl (show (0 : Int32).toInt = 0 from rfl)
    unfold f_X6_keep_17
    exact ok_ret ⟨hT, hR, trivial⟩
  ·
    replace c33 := ti_ltN (a := x1) (b := (0 : Int32)) c33 rfl (show (0 : Int32).toInt = 0 from rfl)
    refine ok_chk r_x0 ?_
    have j34 := J_6_1 hT r_x0
    refine ok_if (fun c35 => ?_) (fun c35 => ?_)
    ·
      replace c35 := ti_leP (a := (zI S 1 x0)) (b := x1) c35 rfl rfl
      unfold f_X6_keep_17
      exact ok_ret ⟨hT, hR, trivial⟩
    ·
      replace c35 := ti_leN (a := (zI S 1 x0)) (b := x1) c35 rfl rfl
      refine ok_chk r_x0 ?_
      refine ok_bnd (fun S1 e36 => ?_)
      have T_S1 : ZT S1 := e36.symm ▸ zt_len hT r_x0 (show (0 : Int) ≤ x1.toInt from by omega) (show x1.toInt ≤ (zI S 1 x0).toInt by omega)
      have kE_S1 : zK S1 = zK S := by rw [e36]; rfl
      have nE_S1 : zN S1 = zN S := by rw [e36]; rfl
      have R_S1 : A7 SZ S1 := a7_I6 hR e36 (by omega)
      unfold f_X6_keep_17
      exact ok_ret ⟨T_S1, R_S1, trivial⟩
theorem t_f_X6_keep {SZ S : ZS} {x0 : Nat} {x1 : Int32} (hT : ZT S) (hR : A7 SZ S) (r_x0 : zK S x0 = 6) (q0 : rc x0 ≠ 2) : Ok (f_X6_keep x0 x1 S) (fun o => ZT o.2 ∧ A7 SZ o.2 ∧ True) := t_f_X6_keep_0 hT hR r_x0 q0
theorem t_f_X7_isSafe_61 {SZ S : ZS} {x0 : Nat} {x1 : Nat} {x2 : Int32} {x5 : Int32} (hT : ZT S) (hR : A7 SZ S) (r_x0 : zK S x0 = 7) (r_x1 : zK S x1 = 0) : Ok (f_X7_isSafe_61 x0 x1 x2 x5 S) (fun o => ZT o.2 ∧ A7 SZ o.2 ∧ ((0 : Int) ≤ o.1.toInt ∧ o.1.toInt ≤ (1 : Int))) := by
  unfold f_X7_isSafe_61
  refine ok_chk r_x0 ?_
  obtain ⟨b1, p_b1, k_b1⟩ := T_7_0 hT r_x0
  refine ok_calR p_b1 ?_
  refine ok_chk k_b1 ?_
  obtain ⟨⟨r2, S2⟩, h_r2, T_S2, A_S2, -⟩ := t_f_X0_copyFrom (x0 := b1) (x1 := x1) (SZ := S) hT (a7_0 S) k_b1 r_x1
  replace T_S2 : ZT S2 := T_S2
  replace A_S2 : A7 S S2 := A_S2
  refine ok_calR h_r2 ?_
  have q_S2 := fq_X0_copyFrom h_r2
  have kE_S2 : zK S2 = zK S := q_S2.2.2.1
  have nE_S2 : zN S2 = zN S := q_S2.2.2.2.1
  have R_S2 : A7 SZ S2 := a7_t hR A_S2
  refine ok_chk ((congrFun kE_S2 x0).trans r_x0) ?_
  obtain ⟨b3, p_b3, k_b3⟩ := T_7_0 T_S2 ((congrFun kE_S2 x0).trans r_x0)
  refine ok_calR p_b3 ?_
  refine ok_chk k_b3 ?_
  obtain ⟨⟨r4, S4⟩, h_r4, T_S4, A_S4, -⟩ := t_f_X0_play (x0 := b3) (x1 := x2) (SZ := S2) T_S2 (a7_0 S2) k_b3
  replace T_S4 : ZT S4 := T_S4
  replace A_S4 : A7 S2 S4 := A_S4
  refine ok_calR h_r4 ?_
  have q_S4 := fq_X0_play h_r4
  have kE_S4 : zK S4 = zK S2 := q_S4.2.2.1
  have nE_S4 : zN S4 = zN S2 := q_S4.2.2.2.1
  have R_S4 : A7 SZ S4 := a7_t R_S2 A_S4
  refine ok_chk ((congrFun kE_S4 x0).trans ((congrFun kE_S2 x0).trans r_x0)) ?_
  obtain ⟨b5, p_b5, k_b5⟩ := T_7_0 T_S4 ((congrFun kE_S4 x0).trans ((congrFun kE_S2 x0).trans r_x0))
  refine ok_calR p_b5 ?_
  refine ok_chk ((congrFun kE_S4 x0).trans ((congrFun kE_S2 x0).trans r_x0)) ?_
  obtain ⟨b6, p_b6, k_b6⟩ := T_7_0 T_S4 ((congrFun kE_S4 x0).trans ((congrFun kE_S2 x0).trans r_x0))
  refine ok_calR p_b6 ?_
  refine ok_chk k_b6 ?_
  obtain ⟨r7, h_r7, p_r7⟩ := roz (t_f_X0_kingOf (x0 := b6) (x1 := x5) T_S4 k_b6)
  dsimp only at p_r7
  refine ok_calR h_r7 ?_
  refine ok_bnd (fun v8 e37 => ?_)
  refine ok_chk k_b5 ?_
  obtain ⟨r9, h_r9, p_r9⟩ := roz (t_f_X0_attacked (x0 := b5) (x1 := r7) (x2 := v8) T_S4 k_b5 (by omega))
  dsimp only at p_r9
  refine ok_calR h_r9 ?_
  refine ok_if (fun c38 => ?_) (fun c38 => ?_)
  ·
    replace c38 := ti_eqP (a := r9) (b := (0 : Int32)) c38 rfl (show (0 : Int32).toInt = 0 from rfl)
    unfold f_X7_isSafe_105
    refine ok_chk (by decide) ?_
    exact ok_ret ⟨T_S4, R_S4, (show (0 : Int) ≤ (1 : Int32).toInt ∧ (1 : Int32).toInt ≤ (1 : Int) from (by decide))⟩
  ·
    replace c38 := ti_eqN (a := r9) (b := (0 : Int32)) c38 rfl (show (0 : Int32).toInt = 0 from rfl)
    unfold f_X7_isSafe_105
    refine ok_chk (by decide) ?_
    exact ok_ret ⟨T_S4, R_S4, (show (0 : Int) ≤ (0 : Int32).toInt ∧ (0 : Int32).toInt ≤ (1 : Int) from (by decide))⟩
theorem t_f_X7_isSafe_0 {SZ S : ZS} {x0 : Nat} {x1 : Nat} {x2 : Int32} (hT : ZT S) (hR : A7 SZ S) (r_x0 : zK S x0 = 7) (r_x1 : zK S x1 = 0) : Ok (f_X7_isSafe_0 x0 x1 x2 S) (fun o => ZT o.2 ∧ A7 SZ o.2 ∧ ((0 : Int) ≤ o.1.toInt ∧ o.1.toInt ≤ (1 : Int))) := by
  unfold f_X7_isSafe_0
  refine ok_bnd (fun v1 e39 => ?_)
  have t_v1 := ti_and e39 (show (63 : Int32).toBitVec.toNat = 63 from rfl) (by decide)
  refine ok_bnd (fun v2 e40 => ?_)
  refine ok_bnd (fun v3 e41 => ?_)
  have t_v3 := ti_and e41 (show (63 : Int32).toBitVec.toNat = 63 from rfl) (by decide)
  refine ok_chk r_x1 ?_
  refine ok_chk r_x1 ?_
  obtain ⟨r4, h_r4, p_r4⟩ := roz (t_f_X0_castles (x0 := x1) (x1 := v1) (x2 := v3) hT r_x1 (by omega) (by omega))
  dsimp only at p_r4
  refine ok_calR h_r4 ?_
  refine ok_if (fun c42 => ?_) (fun c42 => ?_)
  ·
    replace c42 := ti_eqP (a := r4) (b := (0 : Int32)) c42 rfl (show (0 : Int32).toInt = 0 from rfl)
    exact t_f_X7_isSafe_61 (S := S)  (x0 := x0) (x1 := x1) (x2 := x2) (x5 := (zI S 3 x1)) hT hR r_x0 r_x1
  ·
    replace c42 := ti_eqN (a := r4) (b := (0 : Int32)) c42 rfl (show (0 : Int32).toInt = 0 from rfl)
    refine ok_bnd (fun v5 e43 => ?_)
    have j44 := J_0_3 hT r_x1
    have t_v5 : v5.toInt = 1 - (zI S 3 x1).toInt := ti_sub e43 (show (1 : Int32).toInt = 1 from rfl) rfl (by omega) (by omega)
    refine ok_chk r_x1 ?_
    obtain ⟨r6, h_r6, p_r6⟩ := roz (t_f_X0_attacked (x0 := x1) (x1 := v1) (x2 := v5) hT r_x1 (by omega))
    dsimp only at p_r6
    refine ok_calR h_r6 ?_
    refine ok_if (fun c45 => ?_) (fun c45 => ?_)
    ·
      replace c45 := ti_eqP (a := r6) (b := (0 : Int32)) c45 rfl (show (0 : Int32).toInt = 0 from rfl)
      refine ok_bnd (fun v7 e46 => ?_)
      have t_v7 : v7.toInt = v1.toInt + v3.toInt := ti_add e46 rfl rfl (by omega) (by omega)
      refine ok_bnd (fun v8 e47 => ?_)
      have t_v8 : v8.toInt = v7.toInt / 2 := ti_div e47 rfl (show (2 : Int32).toInt = 2 from rfl) (by omega) (by decide)
      refine ok_bnd (fun v9 e48 => ?_)
      have t_v9 : v9.toInt = 1 - (zI S 3 x1).toInt := ti_sub e48 (show (1 : Int32).toInt = 1 from rfl) rfl (by omega) (by omega)
      refine ok_chk r_x1 ?_
      obtain ⟨r10, h_r10, p_r10⟩ := roz (t_f_X0_attacked (x0 := x1) (x1 := v8) (x2 := v9) hT r_x1 (by omega))
      dsimp only at p_r10
      refine ok_calR h_r10 ?_
      refine ok_if (fun c49 => ?_) (fun c49 => ?_)
      ·
        replace c49 := ti_eqP (a := r10) (b := (0 : Int32)) c49 rfl (show (0 : Int32).toInt = 0 from rfl)
        exact t_f_X7_isSafe_61 (S := S)  (x0 := x0) (x1 := x1) (x2 := x2) (x5 := (zI S 3 x1)) hT hR r_x0 r_x1
      ·
        replace c49 := ti_eqN (a := r10) (b := (0 : Int32)) c49 rfl (show (0 : Int32).toInt = 0 from rfl)
        unfold f_X7_isSafe_59
        refine ok_chk (by decide) ?_
        exact ok_ret ⟨hT, hR, (show (0 : Int) ≤ (0 : Int32).toInt ∧ (0 : Int32).toInt ≤ (1 : Int) from (by decide))⟩
    ·
      replace c45 := ti_eqN (a := r6) (b := (0 : Int32)) c45 rfl (show (0 : Int32).toInt = 0 from rfl)
      unfold f_X7_isSafe_59
      refine ok_chk (by decide) ?_
      exact ok_ret ⟨hT, hR, (show (0 : Int) ≤ (0 : Int32).toInt ∧ (0 : Int32).toInt ≤ (1 : Int) from (by decide))⟩
theorem t_f_X7_isSafe {SZ S : ZS} {x0 : Nat} {x1 : Nat} {x2 : Int32} (hT : ZT S) (hR : A7 SZ S) (r_x0 : zK S x0 = 7) (r_x1 : zK S x1 = 0) : Ok (f_X7_isSafe x0 x1 x2 S) (fun o => ZT o.2 ∧ A7 SZ o.2 ∧ ((0 : Int) ≤ o.1.toInt ∧ o.1.toInt ≤ (1 : Int))) := t_f_X7_isSafe_0 hT hR r_x0 r_x1
theorem t_f_X7_isLegal_66 {SZ S : ZS} {x0 : Nat} {x1 : Nat} {x2 : Int32} {t0 : Int32} {t1 : Int32} (hT : ZT S) (hR : A7 SZ S) (r_x0 : zK S x0 = 7) (r_x1 : zK S x1 = 0) : Ok (f_X7_isLegal_66 x0 x1 x2 t0 t1 S) (fun o => ZT o.2 ∧ A7 SZ o.2 ∧ ((0 : Int) ≤ o.1.toInt ∧ o.1.toInt ≤ (1 : Int))) := by
  unfold f_X7_isLegal_66
  refine ok_if (fun c50 => ?_) (fun c50 => ?_)
  ·
    replace c50 := ti_eqP (a := t1) (b := t0) c50 rfl rfl
    refine ok_chk r_x0 ?_
    obtain ⟨⟨r1, S1⟩, h_r1, T_S1, A_S1, p_r1⟩ := t_f_X7_isSafe (x0 := x0) (x1 := x1) (x2 := x2) (SZ := S) hT (a7_0 S) r_x0 r_x1
    replace T_S1 : ZT S1 := T_S1
    replace A_S1 : A7 S S1 := A_S1
    dsimp only at p_r1
    refine ok_calR h_r1 ?_
    have q_S1 := fq_X7_isSafe h_r1
    have kE_S1 : zK S1 = zK S := q_S1.2.2.1
    have nE_S1 : zN S1 = zN S := q_S1.2.2.2.1
    have R_S1 : A7 SZ S1 := a7_t hR A_S1
    refine ok_if (fun c51 => ?_) (fun c51 => ?_)
    ·
      replace c51 := ti_eqP (a := r1) (b := (0 : Int32)) c51 rfl (show (0 : Int32).toInt = 0 from rfl)
      unfold f_X7_isLegal_82
      unfold f_X7_isLegal_83
      refine ok_chk (by decide) ?_
      exact ok_ret ⟨T_S1, R_S1, (show (0 : Int) ≤ (0 : Int32).toInt ∧ (0 : Int32).toInt ≤ (1 : Int) from (by decide))⟩
    ·
      replace c51 := ti_eqN (a := r1) (b := (0 : Int32)) c51 rfl (show (0 : Int32).toInt = 0 from rfl)
      unfold f_X7_isLegal_83
      refine ok_chk (by decide) ?_
      exact ok_ret ⟨T_S1, R_S1, (show (0 : Int) ≤ (1 : Int32).toInt ∧ (1 : Int32).toInt ≤ (1 : Int) from (by decide))⟩
  ·
    replace c50 := ti_eqN (a := t1) (b := t0) c50 rfl rfl
    unfold f_X7_isLegal_82
    unfold f_X7_isLegal_83
    refine ok_chk (by decide) ?_
    exact ok_ret ⟨hT, hR, (show (0 : Int) ≤ (0 : Int32).toInt ∧ (0 : Int32).toInt ≤ (1 : Int) from (by decide))⟩
theorem t_f_X7_isLegal_0 {SZ S : ZS} {x0 : Nat} {x1 : Nat} {x2 : Int32} (hT : ZT S) (hR : A7 SZ S) (r_x0 : zK S x0 = 7) (r_x1 : zK S x1 = 0) : Ok (f_X7_isLegal_0 x0 x1 x2 S) (fun o => ZT o.2 ∧ A7 SZ o.2 ∧ ((0 : Int) ≤ o.1.toInt ∧ o.1.toInt ≤ (1 : Int))) := by
  unfold f_X7_isLegal_0
  refine ok_bnd (fun v1 e52 => ?_)
  have t_v1 := ti_and e52 (show (63 : Int32).toBitVec.toNat = 63 from rfl) (by decide)
  refine ok_bnd (fun v2 e53 => ?_)
  refine ok_bnd (fun v3 e54 => ?_)
  have t_v3 := ti_and e54 (show (63 : Int32).toBitVec.toNat = 63 from rfl) (by decide)
  refine ok_bnd (fun v4 e55 => ?_)
  refine ok_if (fun c56 => ?_) (fun c56 => ?_)
  ·
    replace c56 := ti_ltP (a := v4) (b := (0 : Int32)) c56 rfl (show (0 : Int32).toInt = 0 from rfl)
    unfold f_X7_isLegal_47
    refine ok_chk (by decide) ?_
    exact ok_ret ⟨hT, hR, (show (0 : Int) ≤ (0 : Int32).toInt ∧ (0 : Int32).toInt ≤ (1 : Int) from (by decide))⟩
  ·
    replace c56 := ti_ltN (a := v4) (b := (0 : Int32)) c56 rfl (show (0 : Int32).toInt = 0 from rfl)
    refine ok_if (fun c57 => ?_) (fun c57 => ?_)
    ·
      replace c57 := ti_eqP (a := v4) (b := (1 : Int32)) c57 rfl (show (1 : Int32).toInt = 1 from rfl)
      unfold f_X7_isLegal_47
      refine ok_chk (by decide) ?_
      exact ok_ret ⟨hT, hR, (show (0 : Int) ≤ (0 : Int32).toInt ∧ (0 : Int32).toInt ≤ (1 : Int) from (by decide))⟩
    ·
      replace c57 := ti_eqN (a := v4) (b := (1 : Int32)) c57 rfl (show (1 : Int32).toInt = 1 from rfl)
      refine ok_if (fun c58 => ?_) (fun c58 => ?_)
      ·
        replace c58 := ti_ltP (a := (5 : Int32)) (b := v4) c58 (show (5 : Int32).toInt = 5 from rfl) rfl
        unfold f_X7_isLegal_47
        refine ok_chk (by decide) ?_
        exact ok_ret ⟨hT, hR, (show (0 : Int) ≤ (0 : Int32).toInt ∧ (0 : Int32).toInt ≤ (1 : Int) from (by decide))⟩
      ·
        replace c58 := ti_ltN (a := (5 : Int32)) (b := v4) c58 (show (5 : Int32).toInt = 5 from rfl) rfl
        refine ok_chk r_x1 ?_
        obtain ⟨r5, h_r5, p_r5⟩ := roz (t_f_X0_reaches (x0 := x1) (x1 := v1) (x2 := v3) hT r_x1 (by omega) (by omega))
        dsimp only at p_r5
        refine ok_calR h_r5 ?_
        refine ok_if (fun c59 => ?_) (fun c59 => ?_)
        ·
          replace c59 := ti_eqP (a := r5) (b := (0 : Int32)) c59 rfl (show (0 : Int32).toInt = 0 from rfl)
          unfold f_X7_isLegal_47
          refine ok_chk (by decide) ?_
          exact ok_ret ⟨hT, hR, (show (0 : Int) ≤ (0 : Int32).toInt ∧ (0 : Int32).toInt ≤ (1 : Int) from (by decide))⟩
        ·
          replace c59 := ti_eqN (a := r5) (b := (0 : Int32)) c59 rfl (show (0 : Int32).toInt = 0 from rfl)
          refine ok_chk r_x1 ?_
          obtain ⟨r6, h_r6, p_r6⟩ := roz (t_f_X0_becomesAnother (x0 := x1) (x1 := v1) (x2 := v3) hT r_x1 (by omega))
          dsimp only at p_r6
          refine ok_calR h_r6 ?_
          refine ok_if (fun c60 => ?_) (fun c60 => ?_)
          ·
            replace c60 := ti_eqP (a := v4) (b := (0 : Int32)) c60 rfl (show (0 : Int32).toInt = 0 from rfl)
            exact t_f_X7_isLegal_66 (S := S)  (x0 := x0) (x1 := x1) (x2 := x2) (t0 := (0 : Int32)) (t1 := r6) hT hR r_x0 r_x1
          ·
            replace c60 := ti_eqN (a := v4) (b := (0 : Int32)) c60 rfl (show (0 : Int32).toInt = 0 from rfl)
            exact t_f_X7_isLegal_66 (S := S)  (x0 := x0) (x1 := x1) (x2 := x2) (t0 := (1 : Int32)) (t1 := r6) hT hR r_x0 r_x1
theorem t_f_X7_isLegal {SZ S : ZS} {x0 : Nat} {x1 : Nat} {x2 : Int32} (hT : ZT S) (hR : A7 SZ S) (r_x0 : zK S x0 = 7) (r_x1 : zK S x1 = 0) : Ok (f_X7_isLegal x0 x1 x2 S) (fun o => ZT o.2 ∧ A7 SZ o.2 ∧ ((0 : Int) ≤ o.1.toInt ∧ o.1.toInt ≤ (1 : Int))) := t_f_X7_isLegal_0 hT hR r_x0 r_x1
end
