/-- the same room and the same pool -/
def EqT (S S' : ZS) : Prop := zt S' = zt S ∧ zu S' = zu S ∧ zK S' = zK S ∧ zN S' = zN S ∧ zB S' = zB S
section FQ
variable {S S1 S2 : ZS}
theorem eqt_0 : EqT S S := ⟨rfl, rfl, rfl, rfl, rfl⟩
theorem eqt_t (h : EqT S S1) (h2 : EqT S1 S2) : EqT S S2 := ⟨h2.1.trans h.1, h2.2.1.trans h.2.1, h2.2.2.1.trans h.2.2.1, h2.2.2.2.1.trans h.2.2.2.1, h2.2.2.2.2.trans h.2.2.2.2⟩
theorem eqt_I {j a : Nat} {v : Int32} (h : EqT S S1) (e : S2 = zsI S1 j a v) : EqT S S2 := eqt_t h (by subst e; exact ⟨rfl, rfl, rfl, rfl, rfl⟩)
theorem eqt_P {j a : Nat} {v : Option Nat} (h : EqT S S1) (e : S2 = zsP S1 j a v) : EqT S S2 := eqt_t h (by subst e; exact ⟨rfl, rfl, rfl, rfl, rfl⟩)
theorem eqt_A {a i : Nat} {v : Int32} (h : EqT S S1) (e : S2 = zsA S1 a i v) : EqT S S2 := eqt_t h (by subst e; exact ⟨rfl, rfl, rfl, rfl, rfl⟩)
theorem eqt_C {b a sp dp n : Nat} (h : EqT S S1) (e : S2 = zsC S1 b a sp dp n) : EqT S S2 := eqt_t h (by subst e; exact ⟨rfl, rfl, rfl, rfl, rfl⟩)
end FQ

theorem fq_X0_wipe_2s {o : Int32 × ZS} {self2 : Nat → Int32 → ZS → Option (Int32 × ZS)} {x0 : Nat} {x1 : Int32} {S : ZS} (hself2 : ∀ (z0 : Nat) (z1 : Int32) (S : ZS) (o : Int32 × ZS), self2 z0 z1 S = some o → EqT S o.2) (hf : f_X0_wipe_2s self2 x0 x1 S = some o)   : EqT S o.2 := by
  have h_S : EqT S S := eqt_0
  unfold f_X0_wipe_2s at hf
  rcases m_ifE hf with ⟨-, hf⟩ | ⟨-, hf⟩
  ·
    obtain ⟨q1, hf⟩ := m_chkE hf
    obtain ⟨S1, e2, hf⟩ := m_bndE hf
    have h_S1 := eqt_I h_S e2
    obtain ⟨q3, hf⟩ := m_chkE hf
    obtain ⟨S2, e4, hf⟩ := m_bndE hf
    have h_S2 := eqt_I h_S1 e4
    obtain ⟨q5, hf⟩ := m_chkE hf
    obtain ⟨S3, e6, hf⟩ := m_bndE hf
    have h_S3 := eqt_I h_S2 e6
    obtain ⟨q7, hf⟩ := m_chkE hf
    obtain ⟨S4, e8, hf⟩ := m_bndE hf
    have h_S4 := eqt_I h_S3 e8
    cases hf
    exact h_S4
  ·
    obtain ⟨q9, hf⟩ := m_chkE hf
    obtain ⟨b5, -, hf⟩ := m_calE hf
    obtain ⟨q10, hf⟩ := m_chkE hf
    obtain ⟨-, hf⟩ := m_chkE hf
    obtain ⟨S6, e11, hf⟩ := m_bndE hf
    have h_S6 := eqt_A h_S e11
    obtain ⟨v7, e12, hf⟩ := m_bndE hf
    exact eqt_t h_S6 (hself2 _ _ _ _ hf)
theorem fq_X0_wipe_2   (n : Nat) : ∀ (y0 : Nat) (y1 : Int32) (S : ZS) (o : Int32 × ZS), f_X0_wipe_2  n y0 y1 S = some o → EqT S o.2 := by
  induction n with
  | zero => intro y0 y1 S o hf; cases hf
  | succ n ih => intro y0 y1 S o hf; exact fq_X0_wipe_2s  ih hf
theorem fq_X0_wipe_0 {o : Int32 × ZS} {x0 : Nat} {S : ZS}  (hf : f_X0_wipe_0 x0 S = some o)   : EqT S o.2 := by
  have h_S : EqT S S := eqt_0
  unfold f_X0_wipe_0 at hf
  exact eqt_t h_S (fq_X0_wipe_2  _ _ _ _ _ hf)
theorem fq_X0_wipe {o : Int32 × ZS} {x0 : Nat} {S : ZS}  (hf : f_X0_wipe x0 S = some o)   : EqT S o.2 := by
  have h_S : EqT S S := eqt_0
  unfold f_X0_wipe at hf
  exact eqt_t h_S (fq_X0_wipe_0  hf)
theorem fq_X0_put_32 {o : Int32 × ZS} {S : ZS}  (hf : f_X0_put_32 S = some o)   : EqT S o.2 := by
  have h_S : EqT S S := eqt_0
  unfold f_X0_put_32 at hf
  cases hf
  exact h_S
theorem fq_X0_put_0 {o : Int32 × ZS} {x0 : Nat} {x1 : Int32} {x2 : Int32} {S : ZS}  (hf : f_X0_put_0 x0 x1 x2 S = some o)   : EqT S o.2 := by
  have h_S : EqT S S := eqt_0
  unfold f_X0_put_0 at hf
  obtain ⟨q1, hf⟩ := m_chkE hf
  obtain ⟨b1, -, hf⟩ := m_calE hf
  obtain ⟨q2, hf⟩ := m_chkE hf
  obtain ⟨-, hf⟩ := m_chkE hf
  obtain ⟨S2, e3, hf⟩ := m_bndE hf
  have h_S2 := eqt_A h_S e3
  rcases m_ifE hf with ⟨-, hf⟩ | ⟨-, hf⟩
  ·
    obtain ⟨q4, hf⟩ := m_chkE hf
    obtain ⟨S4, e5, hf⟩ := m_bndE hf
    have h_S4 := eqt_I h_S2 e5
    exact eqt_t h_S4 (fq_X0_put_32  hf)
  ·
    rcases m_ifE hf with ⟨-, hf⟩ | ⟨-, hf⟩
    ·
      obtain ⟨q6, hf⟩ := m_chkE hf
      obtain ⟨S3, e7, hf⟩ := m_bndE hf
      have h_S3 := eqt_I h_S2 e7
      exact eqt_t h_S3 (fq_X0_put_32  hf)
    ·
      exact eqt_t h_S2 (fq_X0_put_32  hf)
theorem fq_X0_put {o : Int32 × ZS} {x0 : Nat} {x1 : Int32} {x2 : Int32} {S : ZS}  (hf : f_X0_put x0 x1 x2 S = some o)   : EqT S o.2 := by
  have h_S : EqT S S := eqt_0
  unfold f_X0_put at hf
  exact eqt_t h_S (fq_X0_put_0  hf)
theorem fq_X0_setUp_6s {o : Int32 × ZS} {self6 : Nat → Int32 → ZS → Option (Int32 × ZS)} {x0 : Nat} {x1 : Int32} {S : ZS} (hself6 : ∀ (z0 : Nat) (z1 : Int32) (S : ZS) (o : Int32 × ZS), self6 z0 z1 S = some o → EqT S o.2) (hf : f_X0_setUp_6s self6 x0 x1 S = some o)   : EqT S o.2 := by
  have h_S : EqT S S := eqt_0
  unfold f_X0_setUp_6s at hf
  rcases m_ifE hf with ⟨-, hf⟩ | ⟨-, hf⟩
  ·
    obtain ⟨q1, hf⟩ := m_chkE hf
    obtain ⟨S1, e2, hf⟩ := m_bndE hf
    have h_S1 := eqt_I h_S e2
    cases hf
    exact h_S1
  ·
    obtain ⟨-, hf⟩ := m_chkE hf
    obtain ⟨v2, e3, hf⟩ := m_bndE hf
    obtain ⟨q4, hf⟩ := m_chkE hf
    obtain ⟨o3, ho, hf⟩ := m_calE hf
    have h_o3 := eqt_t h_S (fq_X0_put ho)
    clear ho
    obtain ⟨v4, e5, hf⟩ := m_bndE hf
    obtain ⟨q6, hf⟩ := m_chkE hf
    obtain ⟨o5, ho, hf⟩ := m_calE hf
    have h_o5 := eqt_t h_o3 (fq_X0_put ho)
    clear ho
    obtain ⟨v6, e7, hf⟩ := m_bndE hf
    obtain ⟨q8, hf⟩ := m_chkE hf
    obtain ⟨o7, ho, hf⟩ := m_calE hf
    have h_o7 := eqt_t h_o5 (fq_X0_put ho)
    clear ho
    obtain ⟨v8, e9, hf⟩ := m_bndE hf
    obtain ⟨-, hf⟩ := m_chkE hf
    obtain ⟨v9, e10, hf⟩ := m_bndE hf
    obtain ⟨v10, e11, hf⟩ := m_bndE hf
    obtain ⟨q12, hf⟩ := m_chkE hf
    obtain ⟨o11, ho, hf⟩ := m_calE hf
    have h_o11 := eqt_t h_o7 (fq_X0_put ho)
    clear ho
    obtain ⟨v12, e13, hf⟩ := m_bndE hf
    exact eqt_t h_o11 (hself6 _ _ _ _ hf)
theorem fq_X0_setUp_6   (n : Nat) : ∀ (y0 : Nat) (y1 : Int32) (S : ZS) (o : Int32 × ZS), f_X0_setUp_6  n y0 y1 S = some o → EqT S o.2 := by
  induction n with
  | zero => intro y0 y1 S o hf; cases hf
  | succ n ih => intro y0 y1 S o hf; exact fq_X0_setUp_6s  ih hf
theorem fq_X0_setUp_0 {o : Int32 × ZS} {x0 : Nat} {S : ZS}  (hf : f_X0_setUp_0 x0 S = some o)   : EqT S o.2 := by
  have h_S : EqT S S := eqt_0
  unfold f_X0_setUp_0 at hf
  obtain ⟨q1, hf⟩ := m_chkE hf
  obtain ⟨o1, ho, hf⟩ := m_calE hf
  have h_o1 := eqt_t h_S (fq_X0_wipe ho)
  clear ho
  exact eqt_t h_o1 (fq_X0_setUp_6  _ _ _ _ _ hf)
theorem fq_X0_setUp {o : Int32 × ZS} {x0 : Nat} {S : ZS}  (hf : f_X0_setUp x0 S = some o)   : EqT S o.2 := by
  have h_S : EqT S S := eqt_0
  unfold f_X0_setUp at hf
  exact eqt_t h_S (fq_X0_setUp_0  hf)
theorem fq_X0_copyFrom_0 {o : Int32 × ZS} {x0 : Nat} {x1 : Nat} {S : ZS}  (hf : f_X0_copyFrom_0 x0 x1 S = some o)   : EqT S o.2 := by
  have h_S : EqT S S := eqt_0
  unfold f_X0_copyFrom_0 at hf
  obtain ⟨q1, hf⟩ := m_chkE hf
  obtain ⟨b1, -, hf⟩ := m_calE hf
  obtain ⟨q2, hf⟩ := m_chkE hf
  obtain ⟨b2, -, hf⟩ := m_calE hf
  obtain ⟨q3, hf⟩ := m_chkE hf
  obtain ⟨q4, hf⟩ := m_chkE hf
  obtain ⟨-, hf⟩ := m_chkE hf
  obtain ⟨S3, e5, hf⟩ := m_bndE hf
  have h_S3 := eqt_C h_S e5
  obtain ⟨q6, hf⟩ := m_chkE hf
  obtain ⟨q7, hf⟩ := m_chkE hf
  obtain ⟨S4, e8, hf⟩ := m_bndE hf
  have h_S4 := eqt_I h_S3 e8
  obtain ⟨q9, hf⟩ := m_chkE hf
  obtain ⟨q10, hf⟩ := m_chkE hf
  obtain ⟨S5, e11, hf⟩ := m_bndE hf
  have h_S5 := eqt_I h_S4 e11
  obtain ⟨q12, hf⟩ := m_chkE hf
  obtain ⟨q13, hf⟩ := m_chkE hf
  obtain ⟨S6, e14, hf⟩ := m_bndE hf
  have h_S6 := eqt_I h_S5 e14
  obtain ⟨q15, hf⟩ := m_chkE hf
  obtain ⟨q16, hf⟩ := m_chkE hf
  obtain ⟨S7, e17, hf⟩ := m_bndE hf
  have h_S7 := eqt_I h_S6 e17
  obtain ⟨q18, hf⟩ := m_chkE hf
  obtain ⟨q19, hf⟩ := m_chkE hf
  obtain ⟨S8, e20, hf⟩ := m_bndE hf
  have h_S8 := eqt_I h_S7 e20
  obtain ⟨q21, hf⟩ := m_chkE hf
  obtain ⟨q22, hf⟩ := m_chkE hf
  obtain ⟨S9, e23, hf⟩ := m_bndE hf
  have h_S9 := eqt_I h_S8 e23
  cases hf
  exact h_S9
theorem fq_X0_copyFrom {o : Int32 × ZS} {x0 : Nat} {x1 : Nat} {S : ZS}  (hf : f_X0_copyFrom x0 x1 S = some o)   : EqT S o.2 := by
  have h_S : EqT S S := eqt_0
  unfold f_X0_copyFrom at hf
  exact eqt_t h_S (fq_X0_copyFrom_0  hf)
theorem fq_X0_kindAt_0 {o : Int32 × ZS} {x0 : Nat} {x1 : Int32} {S : ZS}  (hf : f_X0_kindAt_0 x0 x1 S = some o)   : EqT S o.2 := by
  have h_S : EqT S S := eqt_0
  unfold f_X0_kindAt_0 at hf
  obtain ⟨q1, hf⟩ := m_chkE hf
  obtain ⟨b1, -, hf⟩ := m_calE hf
  obtain ⟨q2, hf⟩ := m_chkE hf
  obtain ⟨-, hf⟩ := m_chkE hf
  obtain ⟨v2, e3, hf⟩ := m_bndE hf
  obtain ⟨v3, e4, hf⟩ := m_bndE hf
  cases hf
  exact h_S
theorem fq_X0_kindAt {o : Int32 × ZS} {x0 : Nat} {x1 : Int32} {S : ZS}  (hf : f_X0_kindAt x0 x1 S = some o)   : EqT S o.2 := by
  have h_S : EqT S S := eqt_0
  unfold f_X0_kindAt at hf
  exact eqt_t h_S (fq_X0_kindAt_0  hf)
theorem fq_X0_kingOf_15 {o : Int32 × ZS} {t0 : Int32} {S : ZS}  (hf : f_X0_kingOf_15 t0 S = some o)   : EqT S o.2 := by
  have h_S : EqT S S := eqt_0
  unfold f_X0_kingOf_15 at hf
  cases hf
  exact h_S
theorem fq_X0_kingOf_0 {o : Int32 × ZS} {x0 : Nat} {x1 : Int32} {S : ZS}  (hf : f_X0_kingOf_0 x0 x1 S = some o)   : EqT S o.2 := by
  have h_S : EqT S S := eqt_0
  unfold f_X0_kingOf_0 at hf
  rcases m_ifE hf with ⟨-, hf⟩ | ⟨-, hf⟩
  ·
    obtain ⟨q1, hf⟩ := m_chkE hf
    exact eqt_t h_S (fq_X0_kingOf_15  hf)
  ·
    obtain ⟨q2, hf⟩ := m_chkE hf
    exact eqt_t h_S (fq_X0_kingOf_15  hf)
theorem fq_X0_kingOf {o : Int32 × ZS} {x0 : Nat} {x1 : Int32} {S : ZS}  (hf : f_X0_kingOf x0 x1 S = some o)   : EqT S o.2 := by
  have h_S : EqT S S := eqt_0
  unfold f_X0_kingOf at hf
  exact eqt_t h_S (fq_X0_kingOf_0  hf)
theorem fq_X0_attacks_235 {o : Int32 × ZS} {S : ZS}  (hf : f_X0_attacks_235 S = some o)   : EqT S o.2 := by
  have h_S : EqT S S := eqt_0
  unfold f_X0_attacks_235 at hf
  obtain ⟨-, hf⟩ := m_chkE hf
  cases hf
  exact h_S
theorem fq_X0_attacks_281s {o : Int32 × ZS} {self281 : Nat → Int32 → Int32 → Int32 → Int32 → ZS → Option (Int32 × ZS)} {x0 : Nat} {x1 : Int32} {x8 : Int32} {x11 : Int32} {x12 : Int32} {S : ZS} (hself281 : ∀ (z0 : Nat) (z1 : Int32) (z2 : Int32) (z3 : Int32) (z4 : Int32) (S : ZS) (o : Int32 × ZS), self281 z0 z1 z2 z3 z4 S = some o → EqT S o.2) (hf : f_X0_attacks_281s self281 x0 x1 x8 x11 x12 S = some o)   : EqT S o.2 := by
  have h_S : EqT S S := eqt_0
  unfold f_X0_attacks_281s at hf
  rcases m_ifE hf with ⟨-, hf⟩ | ⟨-, hf⟩
  ·
    obtain ⟨-, hf⟩ := m_chkE hf
    cases hf
    exact h_S
  ·
    obtain ⟨q1, hf⟩ := m_chkE hf
    obtain ⟨b1, -, hf⟩ := m_calE hf
    obtain ⟨v2, e2, hf⟩ := m_bndE hf
    obtain ⟨v3, e3, hf⟩ := m_bndE hf
    obtain ⟨q4, hf⟩ := m_chkE hf
    obtain ⟨-, hf⟩ := m_chkE hf
    obtain ⟨v4, e5, hf⟩ := m_bndE hf
    rcases m_ifE hf with ⟨-, hf⟩ | ⟨-, hf⟩
    ·
      obtain ⟨v5, e6, hf⟩ := m_bndE hf
      exact eqt_t h_S (hself281 _ _ _ _ _ _ _ hf)
    ·
      obtain ⟨-, hf⟩ := m_chkE hf
      cases hf
      exact h_S
theorem fq_X0_attacks_281   (n : Nat) : ∀ (y0 : Nat) (y1 : Int32) (y2 : Int32) (y3 : Int32) (y4 : Int32) (S : ZS) (o : Int32 × ZS), f_X0_attacks_281  n y0 y1 y2 y3 y4 S = some o → EqT S o.2 := by
  induction n with
  | zero => intro y0 y1 y2 y3 y4 S o hf; cases hf
  | succ n ih => intro y0 y1 y2 y3 y4 S o hf; exact fq_X0_attacks_281s  ih hf
theorem fq_X0_attacks_275 {o : Int32 × ZS} {x0 : Nat} {x1 : Int32} {x8 : Int32} {t0 : Int32} {t1 : Int32} {S : ZS}  (hf : f_X0_attacks_275 x0 x1 x8 t0 t1 S = some o)   : EqT S o.2 := by
  have h_S : EqT S S := eqt_0
  unfold f_X0_attacks_275 at hf
  obtain ⟨v1, e1, hf⟩ := m_bndE hf
  exact eqt_t h_S (fq_X0_attacks_281  _ _ _ _ _ _ _ _ hf)
theorem fq_X0_attacks_254 {o : Int32 × ZS} {x0 : Nat} {x1 : Int32} {x4 : Int32} {x8 : Int32} {t0 : Int32} {S : ZS}  (hf : f_X0_attacks_254 x0 x1 x4 x8 t0 S = some o)   : EqT S o.2 := by
  have h_S : EqT S S := eqt_0
  unfold f_X0_attacks_254 at hf
  rcases m_ifE hf with ⟨-, hf⟩ | ⟨-, hf⟩
  ·
    rcases m_ifE hf with ⟨-, hf⟩ | ⟨-, hf⟩
    ·
      exact eqt_t h_S (fq_X0_attacks_275  hf)
    ·
      exact eqt_t h_S (fq_X0_attacks_275  hf)
  ·
    exact eqt_t h_S (fq_X0_attacks_275  hf)
theorem fq_X0_attacks_223 {o : Int32 × ZS} {x0 : Nat} {x1 : Int32} {x3 : Int32} {x4 : Int32} {x8 : Int32} {t0 : Int32} {S : ZS}  (hf : f_X0_attacks_223 x0 x1 x3 x4 x8 t0 S = some o)   : EqT S o.2 := by
  have h_S : EqT S S := eqt_0
  unfold f_X0_attacks_223 at hf
  rcases m_ifE hf with ⟨-, hf⟩ | ⟨-, hf⟩
  ·
    exact eqt_t h_S (fq_X0_attacks_235  hf)
  ·
    rcases m_ifE hf with ⟨-, hf⟩ | ⟨-, hf⟩
    ·
      exact eqt_t h_S (fq_X0_attacks_235  hf)
    ·
      rcases m_ifE hf with ⟨-, hf⟩ | ⟨-, hf⟩
      ·
        rcases m_ifE hf with ⟨-, hf⟩ | ⟨-, hf⟩
        ·
          exact eqt_t h_S (fq_X0_attacks_254  hf)
        ·
          exact eqt_t h_S (fq_X0_attacks_254  hf)
      ·
        exact eqt_t h_S (fq_X0_attacks_254  hf)
theorem fq_X0_attacks_222 {o : Int32 × ZS} {x0 : Nat} {x1 : Int32} {x3 : Int32} {x4 : Int32} {x8 : Int32} {S : ZS}  (hf : f_X0_attacks_222 x0 x1 x3 x4 x8 S = some o)   : EqT S o.2 := by
  have h_S : EqT S S := eqt_0
  unfold f_X0_attacks_222 at hf
  exact eqt_t h_S (fq_X0_attacks_223  hf)
theorem fq_X0_attacks_218 {o : Int32 × ZS} {x0 : Nat} {x1 : Int32} {x3 : Int32} {x4 : Int32} {x8 : Int32} {S : ZS}  (hf : f_X0_attacks_218 x0 x1 x3 x4 x8 S = some o)   : EqT S o.2 := by
  have h_S : EqT S S := eqt_0
  unfold f_X0_attacks_218 at hf
  exact eqt_t h_S (fq_X0_attacks_223  hf)
theorem fq_X0_attacks_191 {o : Int32 × ZS} {x0 : Nat} {x1 : Int32} {x3 : Int32} {x4 : Int32} {x8 : Int32} {S : ZS}  (hf : f_X0_attacks_191 x0 x1 x3 x4 x8 S = some o)   : EqT S o.2 := by
  have h_S : EqT S S := eqt_0
  unfold f_X0_attacks_191 at hf
  exact eqt_t h_S (fq_X0_attacks_223  hf)
theorem fq_X0_attacks_172 {o : Int32 × ZS} {x0 : Nat} {x1 : Int32} {x3 : Int32} {x4 : Int32} {x5 : Int32} {x6 : Int32} {x7 : Int32} {x8 : Int32} {t0 : Int32} {S : ZS}  (hf : f_X0_attacks_172 x0 x1 x3 x4 x5 x6 x7 x8 t0 S = some o)   : EqT S o.2 := by
  have h_S : EqT S S := eqt_0
  unfold f_X0_attacks_172 at hf
  rcases m_ifE hf with ⟨-, hf⟩ | ⟨-, hf⟩
  ·
    rcases m_ifE hf with ⟨-, hf⟩ | ⟨-, hf⟩
    ·
      rcases m_ifE hf with ⟨-, hf⟩ | ⟨-, hf⟩
      ·
        exact eqt_t h_S (fq_X0_attacks_218  hf)
      ·
        rcases m_ifE hf with ⟨-, hf⟩ | ⟨-, hf⟩
        ·
          exact eqt_t h_S (fq_X0_attacks_218  hf)
        ·
          exact eqt_t h_S (fq_X0_attacks_222  hf)
    ·
      exact eqt_t h_S (fq_X0_attacks_222  hf)
  ·
    rcases m_ifE hf with ⟨-, hf⟩ | ⟨-, hf⟩
    ·
      exact eqt_t h_S (fq_X0_attacks_191  hf)
    ·
      rcases m_ifE hf with ⟨-, hf⟩ | ⟨-, hf⟩
      ·
        exact eqt_t h_S (fq_X0_attacks_191  hf)
      ·
        exact eqt_t h_S (fq_X0_attacks_223  hf)
theorem fq_X0_attacks_167 {o : Int32 × ZS} {x0 : Nat} {x1 : Int32} {x3 : Int32} {x4 : Int32} {x5 : Int32} {x6 : Int32} {x7 : Int32} {x8 : Int32} {S : ZS}  (hf : f_X0_attacks_167 x0 x1 x3 x4 x5 x6 x7 x8 S = some o)   : EqT S o.2 := by
  have h_S : EqT S S := eqt_0
  unfold f_X0_attacks_167 at hf
  exact eqt_t h_S (fq_X0_attacks_172  hf)
theorem fq_X0_attacks_156 {o : Int32 × ZS} {t0 : Int32} {S : ZS}  (hf : f_X0_attacks_156 t0 S = some o)   : EqT S o.2 := by
  have h_S : EqT S S := eqt_0
  unfold f_X0_attacks_156 at hf
  obtain ⟨-, hf⟩ := m_chkE hf
  cases hf
  exact h_S
theorem fq_X0_attacks_136 {o : Int32 × ZS} {x0 : Nat} {x1 : Int32} {x3 : Int32} {x4 : Int32} {x5 : Int32} {x6 : Int32} {x7 : Int32} {t0 : Int32} {S : ZS}  (hf : f_X0_attacks_136 x0 x1 x3 x4 x5 x6 x7 t0 S = some o)   : EqT S o.2 := by
  have h_S : EqT S S := eqt_0
  unfold f_X0_attacks_136 at hf
  rcases m_ifE hf with ⟨-, hf⟩ | ⟨-, hf⟩
  ·
    rcases m_ifE hf with ⟨-, hf⟩ | ⟨-, hf⟩
    ·
      exact eqt_t h_S (fq_X0_attacks_156  hf)
    ·
      exact eqt_t h_S (fq_X0_attacks_156  hf)
  ·
    rcases m_ifE hf with ⟨-, hf⟩ | ⟨-, hf⟩
    ·
      exact eqt_t h_S (fq_X0_attacks_167  hf)
    ·
      rcases m_ifE hf with ⟨-, hf⟩ | ⟨-, hf⟩
      ·
        exact eqt_t h_S (fq_X0_attacks_167  hf)
      ·
        exact eqt_t h_S (fq_X0_attacks_172  hf)
theorem fq_X0_attacks_120 {o : Int32 × ZS} {x0 : Nat} {x1 : Int32} {x3 : Int32} {x4 : Int32} {x5 : Int32} {x6 : Int32} {t0 : Int32} {S : ZS}  (hf : f_X0_attacks_120 x0 x1 x3 x4 x5 x6 t0 S = some o)   : EqT S o.2 := by
  have h_S : EqT S S := eqt_0
  unfold f_X0_attacks_120 at hf
  rcases m_ifE hf with ⟨-, hf⟩ | ⟨-, hf⟩
  ·
    exact eqt_t h_S (fq_X0_attacks_136  hf)
  ·
    exact eqt_t h_S (fq_X0_attacks_136  hf)
theorem fq_X0_attacks_105 {o : Int32 × ZS} {x0 : Nat} {x1 : Int32} {x3 : Int32} {x4 : Int32} {x5 : Int32} {t0 : Int32} {S : ZS}  (hf : f_X0_attacks_105 x0 x1 x3 x4 x5 t0 S = some o)   : EqT S o.2 := by
  have h_S : EqT S S := eqt_0
  unfold f_X0_attacks_105 at hf
  rcases m_ifE hf with ⟨-, hf⟩ | ⟨-, hf⟩
  ·
    exact eqt_t h_S (fq_X0_attacks_120  hf)
  ·
    obtain ⟨v1, e1, hf⟩ := m_bndE hf
    exact eqt_t h_S (fq_X0_attacks_120  hf)
theorem fq_X0_attacks_94 {o : Int32 × ZS} {t0 : Int32} {S : ZS}  (hf : f_X0_attacks_94 t0 S = some o)   : EqT S o.2 := by
  have h_S : EqT S S := eqt_0
  unfold f_X0_attacks_94 at hf
  obtain ⟨-, hf⟩ := m_chkE hf
  cases hf
  exact h_S
theorem fq_X0_attacks_69 {o : Int32 × ZS} {t0 : Int32} {S : ZS}  (hf : f_X0_attacks_69 t0 S = some o)   : EqT S o.2 := by
  have h_S : EqT S S := eqt_0
  unfold f_X0_attacks_69 at hf
  obtain ⟨-, hf⟩ := m_chkE hf
  cases hf
  exact h_S
theorem fq_X0_attacks_68 {o : Int32 × ZS} {S : ZS}  (hf : f_X0_attacks_68 S = some o)   : EqT S o.2 := by
  have h_S : EqT S S := eqt_0
  unfold f_X0_attacks_68 at hf
  exact eqt_t h_S (fq_X0_attacks_69  hf)
theorem fq_X0_attacks_54 {o : Int32 × ZS} {x3 : Int32} {t0 : Int32} {t1 : Int32} {S : ZS}  (hf : f_X0_attacks_54 x3 t0 t1 S = some o)   : EqT S o.2 := by
  have h_S : EqT S S := eqt_0
  unfold f_X0_attacks_54 at hf
  rcases m_ifE hf with ⟨-, hf⟩ | ⟨-, hf⟩
  ·
    obtain ⟨v1, e1, hf⟩ := m_bndE hf
    rcases m_ifE hf with ⟨-, hf⟩ | ⟨-, hf⟩
    ·
      exact eqt_t h_S (fq_X0_attacks_69  hf)
    ·
      exact eqt_t h_S (fq_X0_attacks_68  hf)
  ·
    exact eqt_t h_S (fq_X0_attacks_68  hf)
theorem fq_X0_attacks_0 {o : Int32 × ZS} {x0 : Nat} {x1 : Int32} {x2 : Int32} {S : ZS}  (hf : f_X0_attacks_0 x0 x1 x2 S = some o)   : EqT S o.2 := by
  have h_S : EqT S S := eqt_0
  unfold f_X0_attacks_0 at hf
  obtain ⟨v1, e1, hf⟩ := m_bndE hf
  obtain ⟨v2, e2, hf⟩ := m_bndE hf
  obtain ⟨v3, e3, hf⟩ := m_bndE hf
  obtain ⟨v4, e4, hf⟩ := m_bndE hf
  obtain ⟨v5, e5, hf⟩ := m_bndE hf
  obtain ⟨v6, e6, hf⟩ := m_bndE hf
  obtain ⟨q7, hf⟩ := m_chkE hf
  obtain ⟨b7, -, hf⟩ := m_calE hf
  obtain ⟨q8, hf⟩ := m_chkE hf
  obtain ⟨-, hf⟩ := m_chkE hf
  obtain ⟨v8, e9, hf⟩ := m_bndE hf
  obtain ⟨v9, e10, hf⟩ := m_bndE hf
  rcases m_ifE hf with ⟨-, hf⟩ | ⟨-, hf⟩
  ·
    obtain ⟨q11, hf⟩ := m_chkE hf
    obtain ⟨b14, -, hf⟩ := m_calE hf
    obtain ⟨q12, hf⟩ := m_chkE hf
    obtain ⟨-, hf⟩ := m_chkE hf
    obtain ⟨v15, e13, hf⟩ := m_bndE hf
    rcases m_ifE hf with ⟨-, hf⟩ | ⟨-, hf⟩
    ·
      exact eqt_t h_S (fq_X0_attacks_54  hf)
    ·
      exact eqt_t h_S (fq_X0_attacks_54  hf)
  ·
    rcases m_ifE hf with ⟨-, hf⟩ | ⟨-, hf⟩
    ·
      obtain ⟨v11, e14, hf⟩ := m_bndE hf
      obtain ⟨v12, e15, hf⟩ := m_bndE hf
      obtain ⟨v13, e16, hf⟩ := m_bndE hf
      rcases m_ifE hf with ⟨-, hf⟩ | ⟨-, hf⟩
      ·
        exact eqt_t h_S (fq_X0_attacks_94  hf)
      ·
        exact eqt_t h_S (fq_X0_attacks_94  hf)
    ·
      rcases m_ifE hf with ⟨-, hf⟩ | ⟨-, hf⟩
      ·
        exact eqt_t h_S (fq_X0_attacks_105  hf)
      ·
        obtain ⟨v10, e17, hf⟩ := m_bndE hf
        exact eqt_t h_S (fq_X0_attacks_105  hf)
theorem fq_X0_attacks {o : Int32 × ZS} {x0 : Nat} {x1 : Int32} {x2 : Int32} {S : ZS}  (hf : f_X0_attacks x0 x1 x2 S = some o)   : EqT S o.2 := by
  have h_S : EqT S S := eqt_0
  unfold f_X0_attacks at hf
  exact eqt_t h_S (fq_X0_attacks_0  hf)
theorem fq_X0_attacked_40 {o : Int32 × ZS} {self2 : Nat → Int32 → Int32 → Int32 → ZS → Option (Int32 × ZS)} {x0 : Nat} {x1 : Int32} {x2 : Int32} {x3 : Int32} {S : ZS} (hself2 : ∀ (z0 : Nat) (z1 : Int32) (z2 : Int32) (z3 : Int32) (S : ZS) (o : Int32 × ZS), self2 z0 z1 z2 z3 S = some o → EqT S o.2) (hf : f_X0_attacked_40 self2 x0 x1 x2 x3 S = some o)   : EqT S o.2 := by
  have h_S : EqT S S := eqt_0
  unfold f_X0_attacked_40 at hf
  obtain ⟨v1, e1, hf⟩ := m_bndE hf
  exact eqt_t h_S (hself2 _ _ _ _ _ _ hf)
theorem fq_X0_attacked_2s {o : Int32 × ZS} {self2 : Nat → Int32 → Int32 → Int32 → ZS → Option (Int32 × ZS)} {x0 : Nat} {x1 : Int32} {x2 : Int32} {x3 : Int32} {S : ZS} (hself2 : ∀ (z0 : Nat) (z1 : Int32) (z2 : Int32) (z3 : Int32) (S : ZS) (o : Int32 × ZS), self2 z0 z1 z2 z3 S = some o → EqT S o.2) (hf : f_X0_attacked_2s self2 x0 x1 x2 x3 S = some o)   : EqT S o.2 := by
  have h_S : EqT S S := eqt_0
  unfold f_X0_attacked_2s at hf
  rcases m_ifE hf with ⟨-, hf⟩ | ⟨-, hf⟩
  ·
    obtain ⟨-, hf⟩ := m_chkE hf
    cases hf
    exact h_S
  ·
    obtain ⟨q1, hf⟩ := m_chkE hf
    obtain ⟨b1, -, hf⟩ := m_calE hf
    obtain ⟨q2, hf⟩ := m_chkE hf
    obtain ⟨-, hf⟩ := m_chkE hf
    obtain ⟨v2, e3, hf⟩ := m_bndE hf
    rcases m_ifE hf with ⟨-, hf⟩ | ⟨-, hf⟩
    ·
      exact eqt_t h_S (fq_X0_attacked_40 hself2 hf)
    ·
      obtain ⟨q4, hf⟩ := m_chkE hf
      obtain ⟨b3, -, hf⟩ := m_calE hf
      obtain ⟨q5, hf⟩ := m_chkE hf
      obtain ⟨-, hf⟩ := m_chkE hf
      obtain ⟨v4, e6, hf⟩ := m_bndE hf
      obtain ⟨v5, e7, hf⟩ := m_bndE hf
      rcases m_ifE hf with ⟨-, hf⟩ | ⟨-, hf⟩
      ·
        obtain ⟨q8, hf⟩ := m_chkE hf
        obtain ⟨o6, ho, hf⟩ := m_calE hf
        have h_o6 := eqt_t h_S (fq_X0_attacks ho)
        clear ho
        rcases m_ifE hf with ⟨-, hf⟩ | ⟨-, hf⟩
        ·
          exact eqt_t h_o6 (fq_X0_attacked_40 hself2 hf)
        ·
          obtain ⟨-, hf⟩ := m_chkE hf
          cases hf
          exact h_o6
      ·
        exact eqt_t h_S (fq_X0_attacked_40 hself2 hf)
theorem fq_X0_attacked_2   (n : Nat) : ∀ (y0 : Nat) (y1 : Int32) (y2 : Int32) (y3 : Int32) (S : ZS) (o : Int32 × ZS), f_X0_attacked_2  n y0 y1 y2 y3 S = some o → EqT S o.2 := by
  induction n with
  | zero => intro y0 y1 y2 y3 S o hf; cases hf
  | succ n ih => intro y0 y1 y2 y3 S o hf; exact fq_X0_attacked_2s  ih hf
theorem fq_X0_attacked_0 {o : Int32 × ZS} {x0 : Nat} {x1 : Int32} {x2 : Int32} {S : ZS}  (hf : f_X0_attacked_0 x0 x1 x2 S = some o)   : EqT S o.2 := by
  have h_S : EqT S S := eqt_0
  unfold f_X0_attacked_0 at hf
  exact eqt_t h_S (fq_X0_attacked_2  _ _ _ _ _ _ _ hf)
theorem fq_X0_attacked {o : Int32 × ZS} {x0 : Nat} {x1 : Int32} {x2 : Int32} {S : ZS}  (hf : f_X0_attacked x0 x1 x2 S = some o)   : EqT S o.2 := by
  have h_S : EqT S S := eqt_0
  unfold f_X0_attacked at hf
  exact eqt_t h_S (fq_X0_attacked_0  hf)
theorem fq_X0_pawnReaches_122 {o : Int32 × ZS} {t0 : Int32} {S : ZS}  (hf : f_X0_pawnReaches_122 t0 S = some o)   : EqT S o.2 := by
  have h_S : EqT S S := eqt_0
  unfold f_X0_pawnReaches_122 at hf
  obtain ⟨-, hf⟩ := m_chkE hf
  cases hf
  exact h_S
theorem fq_X0_pawnReaches_121 {o : Int32 × ZS} {S : ZS}  (hf : f_X0_pawnReaches_121 S = some o)   : EqT S o.2 := by
  have h_S : EqT S S := eqt_0
  unfold f_X0_pawnReaches_121 at hf
  exact eqt_t h_S (fq_X0_pawnReaches_122  hf)
theorem fq_X0_pawnReaches_117 {o : Int32 × ZS} {S : ZS}  (hf : f_X0_pawnReaches_117 S = some o)   : EqT S o.2 := by
  have h_S : EqT S S := eqt_0
  unfold f_X0_pawnReaches_117 at hf
  exact eqt_t h_S (fq_X0_pawnReaches_122  hf)
theorem fq_X0_pawnReaches_90 {o : Int32 × ZS} {t0 : Int32} {S : ZS}  (hf : f_X0_pawnReaches_90 t0 S = some o)   : EqT S o.2 := by
  have h_S : EqT S S := eqt_0
  unfold f_X0_pawnReaches_90 at hf
  obtain ⟨-, hf⟩ := m_chkE hf
  cases hf
  exact h_S
theorem fq_X0_pawnReaches_89 {o : Int32 × ZS} {S : ZS}  (hf : f_X0_pawnReaches_89 S = some o)   : EqT S o.2 := by
  have h_S : EqT S S := eqt_0
  unfold f_X0_pawnReaches_89 at hf
  exact eqt_t h_S (fq_X0_pawnReaches_90  hf)
theorem fq_X0_pawnReaches_62 {o : Int32 × ZS} {x0 : Nat} {x1 : Int32} {x2 : Int32} {x3 : Int32} {t0 : Int32} {t1 : Int32} {S : ZS}  (hf : f_X0_pawnReaches_62 x0 x1 x2 x3 t0 t1 S = some o)   : EqT S o.2 := by
  have h_S : EqT S S := eqt_0
  unfold f_X0_pawnReaches_62 at hf
  rcases m_ifE hf with ⟨-, hf⟩ | ⟨-, hf⟩
  ·
    obtain ⟨q1, hf⟩ := m_chkE hf
    obtain ⟨b1, -, hf⟩ := m_calE hf
    obtain ⟨v2, e2, hf⟩ := m_bndE hf
    obtain ⟨q3, hf⟩ := m_chkE hf
    obtain ⟨-, hf⟩ := m_chkE hf
    obtain ⟨v3, e4, hf⟩ := m_bndE hf
    rcases m_ifE hf with ⟨-, hf⟩ | ⟨-, hf⟩
    ·
      obtain ⟨q5, hf⟩ := m_chkE hf
      obtain ⟨b4, -, hf⟩ := m_calE hf
      obtain ⟨q6, hf⟩ := m_chkE hf
      obtain ⟨-, hf⟩ := m_chkE hf
      obtain ⟨v5, e7, hf⟩ := m_bndE hf
      rcases m_ifE hf with ⟨-, hf⟩ | ⟨-, hf⟩
      ·
        exact eqt_t h_S (fq_X0_pawnReaches_90  hf)
      ·
        exact eqt_t h_S (fq_X0_pawnReaches_89  hf)
    ·
      exact eqt_t h_S (fq_X0_pawnReaches_89  hf)
  ·
    exact eqt_t h_S (fq_X0_pawnReaches_89  hf)
theorem fq_X0_pawnReaches_36 {o : Int32 × ZS} {t0 : Int32} {S : ZS}  (hf : f_X0_pawnReaches_36 t0 S = some o)   : EqT S o.2 := by
  have h_S : EqT S S := eqt_0
  unfold f_X0_pawnReaches_36 at hf
  obtain ⟨-, hf⟩ := m_chkE hf
  cases hf
  exact h_S
theorem fq_X0_pawnReaches_14 {o : Int32 × ZS} {x0 : Nat} {x1 : Int32} {x2 : Int32} {t0 : Int32} {S : ZS}  (hf : f_X0_pawnReaches_14 x0 x1 x2 t0 S = some o)   : EqT S o.2 := by
  have h_S : EqT S S := eqt_0
  unfold f_X0_pawnReaches_14 at hf
  obtain ⟨v1, e1, hf⟩ := m_bndE hf
  rcases m_ifE hf with ⟨-, hf⟩ | ⟨-, hf⟩
  ·
    obtain ⟨q2, hf⟩ := m_chkE hf
    obtain ⟨b8, -, hf⟩ := m_calE hf
    obtain ⟨q3, hf⟩ := m_chkE hf
    obtain ⟨-, hf⟩ := m_chkE hf
    obtain ⟨v9, e4, hf⟩ := m_bndE hf
    rcases m_ifE hf with ⟨-, hf⟩ | ⟨-, hf⟩
    ·
      exact eqt_t h_S (fq_X0_pawnReaches_36  hf)
    ·
      exact eqt_t h_S (fq_X0_pawnReaches_36  hf)
  ·
    obtain ⟨v2, e5, hf⟩ := m_bndE hf
    obtain ⟨v3, e6, hf⟩ := m_bndE hf
    rcases m_ifE hf with ⟨-, hf⟩ | ⟨-, hf⟩
    ·
      obtain ⟨v7, e7, hf⟩ := m_bndE hf
      obtain ⟨q8, hf⟩ := m_chkE hf
      rcases m_ifE hf with ⟨-, hf⟩ | ⟨-, hf⟩
      ·
        exact eqt_t h_S (fq_X0_pawnReaches_62  hf)
      ·
        exact eqt_t h_S (fq_X0_pawnReaches_62  hf)
    ·
      obtain ⟨q9, hf⟩ := m_chkE hf
      obtain ⟨o4, ho, hf⟩ := m_calE hf
      have h_o4 := eqt_t h_S (fq_X0_attacks ho)
      clear ho
      rcases m_ifE hf with ⟨-, hf⟩ | ⟨-, hf⟩
      ·
        exact eqt_t h_o4 (fq_X0_pawnReaches_121  hf)
      ·
        obtain ⟨q10, hf⟩ := m_chkE hf
        obtain ⟨b5, -, hf⟩ := m_calE hf
        obtain ⟨q11, hf⟩ := m_chkE hf
        obtain ⟨-, hf⟩ := m_chkE hf
        obtain ⟨v6, e12, hf⟩ := m_bndE hf
        rcases m_ifE hf with ⟨-, hf⟩ | ⟨-, hf⟩
        ·
          obtain ⟨q13, hf⟩ := m_chkE hf
          rcases m_ifE hf with ⟨-, hf⟩ | ⟨-, hf⟩
          ·
            exact eqt_t h_o4 (fq_X0_pawnReaches_117  hf)
          ·
            exact eqt_t h_o4 (fq_X0_pawnReaches_121  hf)
        ·
          exact eqt_t h_o4 (fq_X0_pawnReaches_117  hf)
theorem fq_X0_pawnReaches_0 {o : Int32 × ZS} {x0 : Nat} {x1 : Int32} {x2 : Int32} {S : ZS}  (hf : f_X0_pawnReaches_0 x0 x1 x2 S = some o)   : EqT S o.2 := by
  have h_S : EqT S S := eqt_0
  unfold f_X0_pawnReaches_0 at hf
  obtain ⟨q1, hf⟩ := m_chkE hf
  rcases m_ifE hf with ⟨-, hf⟩ | ⟨-, hf⟩
  ·
    exact eqt_t h_S (fq_X0_pawnReaches_14  hf)
  ·
    exact eqt_t h_S (fq_X0_pawnReaches_14  hf)
theorem fq_X0_pawnReaches {o : Int32 × ZS} {x0 : Nat} {x1 : Int32} {x2 : Int32} {S : ZS}  (hf : f_X0_pawnReaches x0 x1 x2 S = some o)   : EqT S o.2 := by
  have h_S : EqT S S := eqt_0
  unfold f_X0_pawnReaches at hf
  exact eqt_t h_S (fq_X0_pawnReaches_0  hf)
theorem fq_X0_castles_42 {o : Int32 × ZS} {t0 : Int32} {S : ZS}  (hf : f_X0_castles_42 t0 S = some o)   : EqT S o.2 := by
  have h_S : EqT S S := eqt_0
  unfold f_X0_castles_42 at hf
  obtain ⟨-, hf⟩ := m_chkE hf
  cases hf
  exact h_S
theorem fq_X0_castles_41 {o : Int32 × ZS} {S : ZS}  (hf : f_X0_castles_41 S = some o)   : EqT S o.2 := by
  have h_S : EqT S S := eqt_0
  unfold f_X0_castles_41 at hf
  exact eqt_t h_S (fq_X0_castles_42  hf)
theorem fq_X0_castles_37 {o : Int32 × ZS} {S : ZS}  (hf : f_X0_castles_37 S = some o)   : EqT S o.2 := by
  have h_S : EqT S S := eqt_0
  unfold f_X0_castles_37 at hf
  exact eqt_t h_S (fq_X0_castles_42  hf)
theorem fq_X0_castles_0 {o : Int32 × ZS} {x0 : Nat} {x1 : Int32} {x2 : Int32} {S : ZS}  (hf : f_X0_castles_0 x0 x1 x2 S = some o)   : EqT S o.2 := by
  have h_S : EqT S S := eqt_0
  unfold f_X0_castles_0 at hf
  obtain ⟨q1, hf⟩ := m_chkE hf
  obtain ⟨b1, -, hf⟩ := m_calE hf
  obtain ⟨q2, hf⟩ := m_chkE hf
  obtain ⟨-, hf⟩ := m_chkE hf
  obtain ⟨v2, e3, hf⟩ := m_bndE hf
  obtain ⟨v3, e4, hf⟩ := m_bndE hf
  rcases m_ifE hf with ⟨-, hf⟩ | ⟨-, hf⟩
  ·
    obtain ⟨v4, e5, hf⟩ := m_bndE hf
    obtain ⟨v5, e6, hf⟩ := m_bndE hf
    rcases m_ifE hf with ⟨-, hf⟩ | ⟨-, hf⟩
    ·
      obtain ⟨v6, e7, hf⟩ := m_bndE hf
      rcases m_ifE hf with ⟨-, hf⟩ | ⟨-, hf⟩
      ·
        exact eqt_t h_S (fq_X0_castles_37  hf)
      ·
        obtain ⟨v7, e8, hf⟩ := m_bndE hf
        rcases m_ifE hf with ⟨-, hf⟩ | ⟨-, hf⟩
        ·
          exact eqt_t h_S (fq_X0_castles_37  hf)
        ·
          exact eqt_t h_S (fq_X0_castles_41  hf)
    ·
      exact eqt_t h_S (fq_X0_castles_41  hf)
  ·
    exact eqt_t h_S (fq_X0_castles_41  hf)
theorem fq_X0_castles {o : Int32 × ZS} {x0 : Nat} {x1 : Int32} {x2 : Int32} {S : ZS}  (hf : f_X0_castles x0 x1 x2 S = some o)   : EqT S o.2 := by
  have h_S : EqT S S := eqt_0
  unfold f_X0_castles at hf
  exact eqt_t h_S (fq_X0_castles_0  hf)
theorem fq_X0_castlingIsOpen_50 {o : Int32 × ZS} {S : ZS}  (hf : f_X0_castlingIsOpen_50 S = some o)   : EqT S o.2 := by
  have h_S : EqT S S := eqt_0
  unfold f_X0_castlingIsOpen_50 at hf
  obtain ⟨-, hf⟩ := m_chkE hf
  cases hf
  exact h_S
theorem fq_X0_castlingIsOpen_123 {o : Int32 × ZS} {t0 : Int32} {S : ZS}  (hf : f_X0_castlingIsOpen_123 t0 S = some o)   : EqT S o.2 := by
  have h_S : EqT S S := eqt_0
  unfold f_X0_castlingIsOpen_123 at hf
  obtain ⟨-, hf⟩ := m_chkE hf
  cases hf
  exact h_S
theorem fq_X0_castlingIsOpen_122 {o : Int32 × ZS} {S : ZS}  (hf : f_X0_castlingIsOpen_122 S = some o)   : EqT S o.2 := by
  have h_S : EqT S S := eqt_0
  unfold f_X0_castlingIsOpen_122 at hf
  exact eqt_t h_S (fq_X0_castlingIsOpen_123  hf)
theorem fq_X0_castlingIsOpen_84 {o : Int32 × ZS} {t0 : Int32} {S : ZS}  (hf : f_X0_castlingIsOpen_84 t0 S = some o)   : EqT S o.2 := by
  have h_S : EqT S S := eqt_0
  unfold f_X0_castlingIsOpen_84 at hf
  obtain ⟨-, hf⟩ := m_chkE hf
  cases hf
  exact h_S
theorem fq_X0_castlingIsOpen_83 {o : Int32 × ZS} {S : ZS}  (hf : f_X0_castlingIsOpen_83 S = some o)   : EqT S o.2 := by
  have h_S : EqT S S := eqt_0
  unfold f_X0_castlingIsOpen_83 at hf
  exact eqt_t h_S (fq_X0_castlingIsOpen_84  hf)
theorem fq_X0_castlingIsOpen_38 {o : Int32 × ZS} {x0 : Nat} {x1 : Int32} {x2 : Int32} {x3 : Int32} {t0 : Int32} {t1 : Int32} {S : ZS}  (hf : f_X0_castlingIsOpen_38 x0 x1 x2 x3 t0 t1 S = some o)   : EqT S o.2 := by
  have h_S : EqT S S := eqt_0
  unfold f_X0_castlingIsOpen_38 at hf
  rcases m_ifE hf with ⟨-, hf⟩ | ⟨-, hf⟩
  ·
    obtain ⟨q1, hf⟩ := m_chkE hf
    obtain ⟨v1, e2, hf⟩ := m_bndE hf
    rcases m_ifE hf with ⟨-, hf⟩ | ⟨-, hf⟩
    ·
      exact eqt_t h_S (fq_X0_castlingIsOpen_50  hf)
    ·
      rcases m_ifE hf with ⟨-, hf⟩ | ⟨-, hf⟩
      ·
        obtain ⟨q3, hf⟩ := m_chkE hf
        obtain ⟨b2, -, hf⟩ := m_calE hf
        obtain ⟨v3, e4, hf⟩ := m_bndE hf
        obtain ⟨q5, hf⟩ := m_chkE hf
        obtain ⟨-, hf⟩ := m_chkE hf
        obtain ⟨v4, e6, hf⟩ := m_bndE hf
        rcases m_ifE hf with ⟨-, hf⟩ | ⟨-, hf⟩
        ·
          obtain ⟨q7, hf⟩ := m_chkE hf
          obtain ⟨b5, -, hf⟩ := m_calE hf
          obtain ⟨v6, e8, hf⟩ := m_bndE hf
          obtain ⟨q9, hf⟩ := m_chkE hf
          obtain ⟨-, hf⟩ := m_chkE hf
          obtain ⟨v7, e10, hf⟩ := m_bndE hf
          rcases m_ifE hf with ⟨-, hf⟩ | ⟨-, hf⟩
          ·
            obtain ⟨q11, hf⟩ := m_chkE hf
            obtain ⟨b8, -, hf⟩ := m_calE hf
            obtain ⟨v9, e12, hf⟩ := m_bndE hf
            obtain ⟨q13, hf⟩ := m_chkE hf
            obtain ⟨-, hf⟩ := m_chkE hf
            obtain ⟨v10, e14, hf⟩ := m_bndE hf
            rcases m_ifE hf with ⟨-, hf⟩ | ⟨-, hf⟩
            ·
              exact eqt_t h_S (fq_X0_castlingIsOpen_123  hf)
            ·
              exact eqt_t h_S (fq_X0_castlingIsOpen_122  hf)
          ·
            exact eqt_t h_S (fq_X0_castlingIsOpen_122  hf)
        ·
          exact eqt_t h_S (fq_X0_castlingIsOpen_122  hf)
      ·
        obtain ⟨q15, hf⟩ := m_chkE hf
        obtain ⟨b11, -, hf⟩ := m_calE hf
        obtain ⟨v12, e16, hf⟩ := m_bndE hf
        obtain ⟨q17, hf⟩ := m_chkE hf
        obtain ⟨-, hf⟩ := m_chkE hf
        obtain ⟨v13, e18, hf⟩ := m_bndE hf
        rcases m_ifE hf with ⟨-, hf⟩ | ⟨-, hf⟩
        ·
          obtain ⟨q19, hf⟩ := m_chkE hf
          obtain ⟨b14, -, hf⟩ := m_calE hf
          obtain ⟨v15, e20, hf⟩ := m_bndE hf
          obtain ⟨q21, hf⟩ := m_chkE hf
          obtain ⟨-, hf⟩ := m_chkE hf
          obtain ⟨v16, e22, hf⟩ := m_bndE hf
          rcases m_ifE hf with ⟨-, hf⟩ | ⟨-, hf⟩
          ·
            exact eqt_t h_S (fq_X0_castlingIsOpen_84  hf)
          ·
            exact eqt_t h_S (fq_X0_castlingIsOpen_83  hf)
        ·
          exact eqt_t h_S (fq_X0_castlingIsOpen_83  hf)
  ·
    exact eqt_t h_S (fq_X0_castlingIsOpen_50  hf)
theorem fq_X0_castlingIsOpen_22 {o : Int32 × ZS} {x0 : Nat} {x1 : Int32} {x2 : Int32} {t0 : Int32} {t1 : Int32} {S : ZS}  (hf : f_X0_castlingIsOpen_22 x0 x1 x2 t0 t1 S = some o)   : EqT S o.2 := by
  have h_S : EqT S S := eqt_0
  unfold f_X0_castlingIsOpen_22 at hf
  obtain ⟨v1, e1, hf⟩ := m_bndE hf
  obtain ⟨q2, hf⟩ := m_chkE hf
  rcases m_ifE hf with ⟨-, hf⟩ | ⟨-, hf⟩
  ·
    exact eqt_t h_S (fq_X0_castlingIsOpen_38  hf)
  ·
    exact eqt_t h_S (fq_X0_castlingIsOpen_38  hf)
theorem fq_X0_castlingIsOpen_10 {o : Int32 × ZS} {x0 : Nat} {x1 : Int32} {x2 : Int32} {t0 : Int32} {S : ZS}  (hf : f_X0_castlingIsOpen_10 x0 x1 x2 t0 S = some o)   : EqT S o.2 := by
  have h_S : EqT S S := eqt_0
  unfold f_X0_castlingIsOpen_10 at hf
  obtain ⟨q1, hf⟩ := m_chkE hf
  rcases m_ifE hf with ⟨-, hf⟩ | ⟨-, hf⟩
  ·
    exact eqt_t h_S (fq_X0_castlingIsOpen_22  hf)
  ·
    exact eqt_t h_S (fq_X0_castlingIsOpen_22  hf)
theorem fq_X0_castlingIsOpen_0 {o : Int32 × ZS} {x0 : Nat} {x1 : Int32} {x2 : Int32} {S : ZS}  (hf : f_X0_castlingIsOpen_0 x0 x1 x2 S = some o)   : EqT S o.2 := by
  have h_S : EqT S S := eqt_0
  unfold f_X0_castlingIsOpen_0 at hf
  rcases m_ifE hf with ⟨-, hf⟩ | ⟨-, hf⟩
  ·
    exact eqt_t h_S (fq_X0_castlingIsOpen_10  hf)
  ·
    exact eqt_t h_S (fq_X0_castlingIsOpen_10  hf)
theorem fq_X0_castlingIsOpen {o : Int32 × ZS} {x0 : Nat} {x1 : Int32} {x2 : Int32} {S : ZS}  (hf : f_X0_castlingIsOpen x0 x1 x2 S = some o)   : EqT S o.2 := by
  have h_S : EqT S S := eqt_0
  unfold f_X0_castlingIsOpen at hf
  exact eqt_t h_S (fq_X0_castlingIsOpen_0  hf)
theorem fq_X0_reaches_45 {o : Int32 × ZS} {S : ZS}  (hf : f_X0_reaches_45 S = some o)   : EqT S o.2 := by
  have h_S : EqT S S := eqt_0
  unfold f_X0_reaches_45 at hf
  obtain ⟨-, hf⟩ := m_chkE hf
  cases hf
  exact h_S
theorem fq_X0_reaches_95 {o : Int32 × ZS} {t0 : Int32} {S : ZS}  (hf : f_X0_reaches_95 t0 S = some o)   : EqT S o.2 := by
  have h_S : EqT S S := eqt_0
  unfold f_X0_reaches_95 at hf
  obtain ⟨-, hf⟩ := m_chkE hf
  cases hf
  exact h_S
theorem fq_X0_reaches_90 {o : Int32 × ZS} {S : ZS}  (hf : f_X0_reaches_90 S = some o)   : EqT S o.2 := by
  have h_S : EqT S S := eqt_0
  unfold f_X0_reaches_90 at hf
  exact eqt_t h_S (fq_X0_reaches_95  hf)
theorem fq_X0_reaches_94 {o : Int32 × ZS} {S : ZS}  (hf : f_X0_reaches_94 S = some o)   : EqT S o.2 := by
  have h_S : EqT S S := eqt_0
  unfold f_X0_reaches_94 at hf
  exact eqt_t h_S (fq_X0_reaches_95  hf)
theorem fq_X0_reaches_47 {o : Int32 × ZS} {x0 : Nat} {x1 : Int32} {x2 : Int32} {S : ZS}  (hf : f_X0_reaches_47 x0 x1 x2 S = some o)   : EqT S o.2 := by
  have h_S : EqT S S := eqt_0
  unfold f_X0_reaches_47 at hf
  obtain ⟨q1, hf⟩ := m_chkE hf
  obtain ⟨o1, ho, hf⟩ := m_calE hf
  have h_o1 := eqt_t h_S (fq_X0_kindAt ho)
  clear ho
  rcases m_ifE hf with ⟨-, hf⟩ | ⟨-, hf⟩
  ·
    obtain ⟨q2, hf⟩ := m_chkE hf
    obtain ⟨o5, ho, hf⟩ := m_calE hf
    have h_o5 := eqt_t h_o1 (fq_X0_pawnReaches ho)
    clear ho
    obtain ⟨-, hf⟩ := m_chkE hf
    cases hf
    exact h_o5
  ·
    obtain ⟨q3, hf⟩ := m_chkE hf
    obtain ⟨o2, ho, hf⟩ := m_calE hf
    have h_o2 := eqt_t h_o1 (fq_X0_attacks ho)
    clear ho
    rcases m_ifE hf with ⟨-, hf⟩ | ⟨-, hf⟩
    ·
      obtain ⟨q4, hf⟩ := m_chkE hf
      obtain ⟨o3, ho, hf⟩ := m_calE hf
      have h_o3 := eqt_t h_o2 (fq_X0_castles ho)
      clear ho
      rcases m_ifE hf with ⟨-, hf⟩ | ⟨-, hf⟩
      ·
        exact eqt_t h_o3 (fq_X0_reaches_94  hf)
      ·
        obtain ⟨q5, hf⟩ := m_chkE hf
        obtain ⟨o4, ho, hf⟩ := m_calE hf
        have h_o4 := eqt_t h_o3 (fq_X0_castlingIsOpen ho)
        clear ho
        rcases m_ifE hf with ⟨-, hf⟩ | ⟨-, hf⟩
        ·
          exact eqt_t h_o4 (fq_X0_reaches_94  hf)
        ·
          exact eqt_t h_o4 (fq_X0_reaches_90  hf)
    ·
      exact eqt_t h_o2 (fq_X0_reaches_90  hf)
theorem fq_X0_reaches_0 {o : Int32 × ZS} {x0 : Nat} {x1 : Int32} {x2 : Int32} {S : ZS}  (hf : f_X0_reaches_0 x0 x1 x2 S = some o)   : EqT S o.2 := by
  have h_S : EqT S S := eqt_0
  unfold f_X0_reaches_0 at hf
  obtain ⟨q1, hf⟩ := m_chkE hf
  obtain ⟨b1, -, hf⟩ := m_calE hf
  obtain ⟨q2, hf⟩ := m_chkE hf
  obtain ⟨-, hf⟩ := m_chkE hf
  obtain ⟨v2, e3, hf⟩ := m_bndE hf
  rcases m_ifE hf with ⟨-, hf⟩ | ⟨-, hf⟩
  ·
    exact eqt_t h_S (fq_X0_reaches_45  hf)
  ·
    obtain ⟨v3, e4, hf⟩ := m_bndE hf
    obtain ⟨q5, hf⟩ := m_chkE hf
    rcases m_ifE hf with ⟨-, hf⟩ | ⟨-, hf⟩
    ·
      obtain ⟨q6, hf⟩ := m_chkE hf
      obtain ⟨b4, -, hf⟩ := m_calE hf
      obtain ⟨q7, hf⟩ := m_chkE hf
      obtain ⟨-, hf⟩ := m_chkE hf
      obtain ⟨v5, e8, hf⟩ := m_bndE hf
      rcases m_ifE hf with ⟨-, hf⟩ | ⟨-, hf⟩
      ·
        exact eqt_t h_S (fq_X0_reaches_47  hf)
      ·
        obtain ⟨q9, hf⟩ := m_chkE hf
        obtain ⟨b6, -, hf⟩ := m_calE hf
        obtain ⟨q10, hf⟩ := m_chkE hf
        obtain ⟨-, hf⟩ := m_chkE hf
        obtain ⟨v7, e11, hf⟩ := m_bndE hf
        obtain ⟨v8, e12, hf⟩ := m_bndE hf
        obtain ⟨q13, hf⟩ := m_chkE hf
        rcases m_ifE hf with ⟨-, hf⟩ | ⟨-, hf⟩
        ·
          exact eqt_t h_S (fq_X0_reaches_45  hf)
        ·
          exact eqt_t h_S (fq_X0_reaches_47  hf)
    ·
      exact eqt_t h_S (fq_X0_reaches_45  hf)
theorem fq_X0_reaches {o : Int32 × ZS} {x0 : Nat} {x1 : Int32} {x2 : Int32} {S : ZS}  (hf : f_X0_reaches x0 x1 x2 S = some o)   : EqT S o.2 := by
  have h_S : EqT S S := eqt_0
  unfold f_X0_reaches at hf
  exact eqt_t h_S (fq_X0_reaches_0  hf)
theorem fq_X0_takes_34 {o : Int32 × ZS} {t0 : Int32} {S : ZS}  (hf : f_X0_takes_34 t0 S = some o)   : EqT S o.2 := by
  have h_S : EqT S S := eqt_0
  unfold f_X0_takes_34 at hf
  obtain ⟨-, hf⟩ := m_chkE hf
  cases hf
  exact h_S
theorem fq_X0_takes_29 {o : Int32 × ZS} {S : ZS}  (hf : f_X0_takes_29 S = some o)   : EqT S o.2 := by
  have h_S : EqT S S := eqt_0
  unfold f_X0_takes_29 at hf
  exact eqt_t h_S (fq_X0_takes_34  hf)
theorem fq_X0_takes_33 {o : Int32 × ZS} {S : ZS}  (hf : f_X0_takes_33 S = some o)   : EqT S o.2 := by
  have h_S : EqT S S := eqt_0
  unfold f_X0_takes_33 at hf
  exact eqt_t h_S (fq_X0_takes_34  hf)
theorem fq_X0_takes_0 {o : Int32 × ZS} {x0 : Nat} {x1 : Int32} {x2 : Int32} {S : ZS}  (hf : f_X0_takes_0 x0 x1 x2 S = some o)   : EqT S o.2 := by
  have h_S : EqT S S := eqt_0
  unfold f_X0_takes_0 at hf
  obtain ⟨q1, hf⟩ := m_chkE hf
  obtain ⟨b1, -, hf⟩ := m_calE hf
  obtain ⟨q2, hf⟩ := m_chkE hf
  obtain ⟨-, hf⟩ := m_chkE hf
  obtain ⟨v2, e3, hf⟩ := m_bndE hf
  rcases m_ifE hf with ⟨-, hf⟩ | ⟨-, hf⟩
  ·
    obtain ⟨q4, hf⟩ := m_chkE hf
    obtain ⟨o3, ho, hf⟩ := m_calE hf
    have h_o3 := eqt_t h_S (fq_X0_kindAt ho)
    clear ho
    rcases m_ifE hf with ⟨-, hf⟩ | ⟨-, hf⟩
    ·
      obtain ⟨v4, e5, hf⟩ := m_bndE hf
      obtain ⟨v5, e6, hf⟩ := m_bndE hf
      rcases m_ifE hf with ⟨-, hf⟩ | ⟨-, hf⟩
      ·
        exact eqt_t h_o3 (fq_X0_takes_33  hf)
      ·
        exact eqt_t h_o3 (fq_X0_takes_29  hf)
    ·
      exact eqt_t h_o3 (fq_X0_takes_33  hf)
  ·
    exact eqt_t h_S (fq_X0_takes_29  hf)
theorem fq_X0_takes {o : Int32 × ZS} {x0 : Nat} {x1 : Int32} {x2 : Int32} {S : ZS}  (hf : f_X0_takes x0 x1 x2 S = some o)   : EqT S o.2 := by
  have h_S : EqT S S := eqt_0
  unfold f_X0_takes at hf
  exact eqt_t h_S (fq_X0_takes_0  hf)
theorem fq_X0_becomesAnother_26 {o : Int32 × ZS} {t0 : Int32} {S : ZS}  (hf : f_X0_becomesAnother_26 t0 S = some o)   : EqT S o.2 := by
  have h_S : EqT S S := eqt_0
  unfold f_X0_becomesAnother_26 at hf
  obtain ⟨-, hf⟩ := m_chkE hf
  cases hf
  exact h_S
theorem fq_X0_becomesAnother_25 {o : Int32 × ZS} {S : ZS}  (hf : f_X0_becomesAnother_25 S = some o)   : EqT S o.2 := by
  have h_S : EqT S S := eqt_0
  unfold f_X0_becomesAnother_25 at hf
  exact eqt_t h_S (fq_X0_becomesAnother_26  hf)
theorem fq_X0_becomesAnother_21 {o : Int32 × ZS} {S : ZS}  (hf : f_X0_becomesAnother_21 S = some o)   : EqT S o.2 := by
  have h_S : EqT S S := eqt_0
  unfold f_X0_becomesAnother_21 at hf
  exact eqt_t h_S (fq_X0_becomesAnother_26  hf)
theorem fq_X0_becomesAnother_0 {o : Int32 × ZS} {x0 : Nat} {x1 : Int32} {x2 : Int32} {S : ZS}  (hf : f_X0_becomesAnother_0 x0 x1 x2 S = some o)   : EqT S o.2 := by
  have h_S : EqT S S := eqt_0
  unfold f_X0_becomesAnother_0 at hf
  obtain ⟨q1, hf⟩ := m_chkE hf
  obtain ⟨o1, ho, hf⟩ := m_calE hf
  have h_o1 := eqt_t h_S (fq_X0_kindAt ho)
  clear ho
  rcases m_ifE hf with ⟨-, hf⟩ | ⟨-, hf⟩
  ·
    rcases m_ifE hf with ⟨-, hf⟩ | ⟨-, hf⟩
    ·
      exact eqt_t h_o1 (fq_X0_becomesAnother_21  hf)
    ·
      rcases m_ifE hf with ⟨-, hf⟩ | ⟨-, hf⟩
      ·
        exact eqt_t h_o1 (fq_X0_becomesAnother_25  hf)
      ·
        exact eqt_t h_o1 (fq_X0_becomesAnother_21  hf)
  ·
    exact eqt_t h_o1 (fq_X0_becomesAnother_25  hf)
theorem fq_X0_becomesAnother {o : Int32 × ZS} {x0 : Nat} {x1 : Int32} {x2 : Int32} {S : ZS}  (hf : f_X0_becomesAnother x0 x1 x2 S = some o)   : EqT S o.2 := by
  have h_S : EqT S S := eqt_0
  unfold f_X0_becomesAnother at hf
  exact eqt_t h_S (fq_X0_becomesAnother_0  hf)
theorem fq_X0_pawnAttacks_34 {o : Int32 × ZS} {S : ZS}  (hf : f_X0_pawnAttacks_34 S = some o)   : EqT S o.2 := by
  have h_S : EqT S S := eqt_0
  unfold f_X0_pawnAttacks_34 at hf
  obtain ⟨-, hf⟩ := m_chkE hf
  cases hf
  exact h_S
theorem fq_X0_pawnAttacks_85 {o : Int32 × ZS} {t0 : Int32} {S : ZS}  (hf : f_X0_pawnAttacks_85 t0 S = some o)   : EqT S o.2 := by
  have h_S : EqT S S := eqt_0
  unfold f_X0_pawnAttacks_85 at hf
  obtain ⟨-, hf⟩ := m_chkE hf
  cases hf
  exact h_S
theorem fq_X0_pawnAttacks_84 {o : Int32 × ZS} {S : ZS}  (hf : f_X0_pawnAttacks_84 S = some o)   : EqT S o.2 := by
  have h_S : EqT S S := eqt_0
  unfold f_X0_pawnAttacks_84 at hf
  exact eqt_t h_S (fq_X0_pawnAttacks_85  hf)
theorem fq_X0_pawnAttacks_80 {o : Int32 × ZS} {S : ZS}  (hf : f_X0_pawnAttacks_80 S = some o)   : EqT S o.2 := by
  have h_S : EqT S S := eqt_0
  unfold f_X0_pawnAttacks_80 at hf
  exact eqt_t h_S (fq_X0_pawnAttacks_85  hf)
theorem fq_X0_pawnAttacks_57 {o : Int32 × ZS} {x0 : Nat} {x3 : Int32} {x4 : Int32} {S : ZS}  (hf : f_X0_pawnAttacks_57 x0 x3 x4 S = some o)   : EqT S o.2 := by
  have h_S : EqT S S := eqt_0
  unfold f_X0_pawnAttacks_57 at hf
  obtain ⟨v1, e1, hf⟩ := m_bndE hf
  rcases m_ifE hf with ⟨-, hf⟩ | ⟨-, hf⟩
  ·
    exact eqt_t h_S (fq_X0_pawnAttacks_84  hf)
  ·
    obtain ⟨q2, hf⟩ := m_chkE hf
    obtain ⟨b2, -, hf⟩ := m_calE hf
    obtain ⟨v3, e3, hf⟩ := m_bndE hf
    obtain ⟨q4, hf⟩ := m_chkE hf
    obtain ⟨-, hf⟩ := m_chkE hf
    obtain ⟨v4, e5, hf⟩ := m_bndE hf
    rcases m_ifE hf with ⟨-, hf⟩ | ⟨-, hf⟩
    ·
      exact eqt_t h_S (fq_X0_pawnAttacks_80  hf)
    ·
      exact eqt_t h_S (fq_X0_pawnAttacks_84  hf)
theorem fq_X0_pawnAttacks_19 {o : Int32 × ZS} {x0 : Nat} {x3 : Int32} {t0 : Int32} {t1 : Int32} {S : ZS}  (hf : f_X0_pawnAttacks_19 x0 x3 t0 t1 S = some o)   : EqT S o.2 := by
  have h_S : EqT S S := eqt_0
  unfold f_X0_pawnAttacks_19 at hf
  obtain ⟨v1, e1, hf⟩ := m_bndE hf
  rcases m_ifE hf with ⟨-, hf⟩ | ⟨-, hf⟩
  ·
    exact eqt_t h_S (fq_X0_pawnAttacks_34  hf)
  ·
    rcases m_ifE hf with ⟨-, hf⟩ | ⟨-, hf⟩
    ·
      obtain ⟨v2, e2, hf⟩ := m_bndE hf
      rcases m_ifE hf with ⟨-, hf⟩ | ⟨-, hf⟩
      ·
        exact eqt_t h_S (fq_X0_pawnAttacks_57  hf)
      ·
        obtain ⟨q3, hf⟩ := m_chkE hf
        obtain ⟨b3, -, hf⟩ := m_calE hf
        obtain ⟨v4, e4, hf⟩ := m_bndE hf
        obtain ⟨q5, hf⟩ := m_chkE hf
        obtain ⟨-, hf⟩ := m_chkE hf
        obtain ⟨v5, e6, hf⟩ := m_bndE hf
        rcases m_ifE hf with ⟨-, hf⟩ | ⟨-, hf⟩
        ·
          exact eqt_t h_S (fq_X0_pawnAttacks_80  hf)
        ·
          exact eqt_t h_S (fq_X0_pawnAttacks_57  hf)
    ·
      exact eqt_t h_S (fq_X0_pawnAttacks_34  hf)
theorem fq_X0_pawnAttacks_0 {o : Int32 × ZS} {x0 : Nat} {x1 : Int32} {x2 : Int32} {S : ZS}  (hf : f_X0_pawnAttacks_0 x0 x1 x2 S = some o)   : EqT S o.2 := by
  have h_S : EqT S S := eqt_0
  unfold f_X0_pawnAttacks_0 at hf
  obtain ⟨v1, e1, hf⟩ := m_bndE hf
  obtain ⟨v2, e2, hf⟩ := m_bndE hf
  rcases m_ifE hf with ⟨-, hf⟩ | ⟨-, hf⟩
  ·
    exact eqt_t h_S (fq_X0_pawnAttacks_19  hf)
  ·
    exact eqt_t h_S (fq_X0_pawnAttacks_19  hf)
theorem fq_X0_pawnAttacks {o : Int32 × ZS} {x0 : Nat} {x1 : Int32} {x2 : Int32} {S : ZS}  (hf : f_X0_pawnAttacks x0 x1 x2 S = some o)   : EqT S o.2 := by
  have h_S : EqT S S := eqt_0
  unfold f_X0_pawnAttacks at hf
  exact eqt_t h_S (fq_X0_pawnAttacks_0  hf)
theorem fq_X0_rightsOf_0 {o : Int32 × ZS} {x0 : Int32} {S : ZS}  (hf : f_X0_rightsOf_0 x0 S = some o)   : EqT S o.2 := by
  have h_S : EqT S S := eqt_0
  unfold f_X0_rightsOf_0 at hf
  rcases m_ifE hf with ⟨-, hf⟩ | ⟨-, hf⟩
  ·
    cases hf
    exact h_S
  ·
    rcases m_ifE hf with ⟨-, hf⟩ | ⟨-, hf⟩
    ·
      cases hf
      exact h_S
    ·
      rcases m_ifE hf with ⟨-, hf⟩ | ⟨-, hf⟩
      ·
        cases hf
        exact h_S
      ·
        rcases m_ifE hf with ⟨-, hf⟩ | ⟨-, hf⟩
        ·
          cases hf
          exact h_S
        ·
          rcases m_ifE hf with ⟨-, hf⟩ | ⟨-, hf⟩
          ·
            cases hf
            exact h_S
          ·
            rcases m_ifE hf with ⟨-, hf⟩ | ⟨-, hf⟩
            ·
              cases hf
              exact h_S
            ·
              cases hf
              exact h_S
theorem fq_X0_rightsOf {o : Int32 × ZS} {x0 : Int32} {S : ZS}  (hf : f_X0_rightsOf x0 S = some o)   : EqT S o.2 := by
  have h_S : EqT S S := eqt_0
  unfold f_X0_rightsOf at hf
  exact eqt_t h_S (fq_X0_rightsOf_0  hf)
theorem fq_X0_play_227 {o : Int32 × ZS} {x0 : Nat} {S : ZS}  (hf : f_X0_play_227 x0 S = some o)   : EqT S o.2 := by
  have h_S : EqT S S := eqt_0
  unfold f_X0_play_227 at hf
  obtain ⟨q1, hf⟩ := m_chkE hf
  obtain ⟨q2, hf⟩ := m_chkE hf
  obtain ⟨v1, e3, hf⟩ := m_bndE hf
  obtain ⟨q4, hf⟩ := m_chkE hf
  obtain ⟨S2, e5, hf⟩ := m_bndE hf
  have h_S2 := eqt_I h_S e5
  obtain ⟨q6, hf⟩ := m_chkE hf
  obtain ⟨v3, e7, hf⟩ := m_bndE hf
  obtain ⟨q8, hf⟩ := m_chkE hf
  obtain ⟨S4, e9, hf⟩ := m_bndE hf
  have h_S4 := eqt_I h_S2 e9
  cases hf
  exact h_S4
theorem fq_X0_play_200 {o : Int32 × ZS} {x0 : Nat} {x2 : Int32} {x3 : Int32} {S : ZS}  (hf : f_X0_play_200 x0 x2 x3 S = some o)   : EqT S o.2 := by
  have h_S : EqT S S := eqt_0
  unfold f_X0_play_200 at hf
  obtain ⟨v1, e1, hf⟩ := m_bndE hf
  obtain ⟨v2, e2, hf⟩ := m_bndE hf
  obtain ⟨q3, hf⟩ := m_chkE hf
  obtain ⟨v3, e4, hf⟩ := m_bndE hf
  obtain ⟨q5, hf⟩ := m_chkE hf
  obtain ⟨o4, ho, hf⟩ := m_calE hf
  have h_o4 := eqt_t h_S (fq_X0_pawnAttacks ho)
  clear ho
  rcases m_ifE hf with ⟨-, hf⟩ | ⟨-, hf⟩
  ·
    exact eqt_t h_o4 (fq_X0_play_227  hf)
  ·
    obtain ⟨v5, e6, hf⟩ := m_bndE hf
    obtain ⟨v6, e7, hf⟩ := m_bndE hf
    obtain ⟨q8, hf⟩ := m_chkE hf
    obtain ⟨S7, e9, hf⟩ := m_bndE hf
    have h_S7 := eqt_I h_o4 e9
    exact eqt_t h_S7 (fq_X0_play_227  hf)
theorem fq_X0_play_144 {o : Int32 × ZS} {x0 : Nat} {x2 : Int32} {x3 : Int32} {x5 : Int32} {t0 : Int32} {t1 : Int32} {t2 : Nat} {S : ZS}  (hf : f_X0_play_144 x0 x2 x3 x5 t0 t1 t2 S = some o)   : EqT S o.2 := by
  have h_S : EqT S S := eqt_0
  unfold f_X0_play_144 at hf
  obtain ⟨q1, hf⟩ := m_chkE hf
  obtain ⟨o1, ho, hf⟩ := m_calE hf
  have h_o1 := eqt_t h_S (fq_X0_put ho)
  clear ho
  obtain ⟨q2, hf⟩ := m_chkE hf
  obtain ⟨b2, -, hf⟩ := m_calE hf
  obtain ⟨q3, hf⟩ := m_chkE hf
  obtain ⟨-, hf⟩ := m_chkE hf
  obtain ⟨S3, e4, hf⟩ := m_bndE hf
  have h_S3 := eqt_A h_o1 e4
  obtain ⟨q5, hf⟩ := m_chkE hf
  obtain ⟨o4, ho, hf⟩ := m_calE hf
  have h_o4 := eqt_t h_S3 (fq_X0_rightsOf ho)
  clear ho
  obtain ⟨o5, ho, hf⟩ := m_calE hf
  have h_o5 := eqt_t h_o4 (fq_X0_rightsOf ho)
  clear ho
  obtain ⟨v6, e6, hf⟩ := m_bndE hf
  obtain ⟨v7, e7, hf⟩ := m_bndE hf
  obtain ⟨v8, e8, hf⟩ := m_bndE hf
  obtain ⟨q9, hf⟩ := m_chkE hf
  obtain ⟨S9, e10, hf⟩ := m_bndE hf
  have h_S9 := eqt_I h_o5 e10
  obtain ⟨q11, hf⟩ := m_chkE hf
  obtain ⟨S10, e12, hf⟩ := m_bndE hf
  have h_S10 := eqt_I h_S9 e12
  rcases m_ifE hf with ⟨-, hf⟩ | ⟨-, hf⟩
  ·
    exact eqt_t h_S10 (fq_X0_play_227  hf)
  ·
    obtain ⟨v11, e13, hf⟩ := m_bndE hf
    rcases m_ifE hf with ⟨-, hf⟩ | ⟨-, hf⟩
    ·
      exact eqt_t h_S10 (fq_X0_play_200  hf)
    ·
      obtain ⟨v12, e14, hf⟩ := m_bndE hf
      rcases m_ifE hf with ⟨-, hf⟩ | ⟨-, hf⟩
      ·
        exact eqt_t h_S10 (fq_X0_play_200  hf)
      ·
        exact eqt_t h_S10 (fq_X0_play_227  hf)
theorem fq_X0_play_118 {o : Int32 × ZS} {x0 : Nat} {x2 : Int32} {x3 : Int32} {x4 : Int32} {x5 : Int32} {S : ZS}  (hf : f_X0_play_118 x0 x2 x3 x4 x5 S = some o)   : EqT S o.2 := by
  have h_S : EqT S S := eqt_0
  unfold f_X0_play_118 at hf
  rcases m_ifE hf with ⟨-, hf⟩ | ⟨-, hf⟩
  ·
    obtain ⟨q1, hf⟩ := m_chkE hf
    obtain ⟨b3, -, hf⟩ := m_calE hf
    obtain ⟨q2, hf⟩ := m_chkE hf
    obtain ⟨-, hf⟩ := m_chkE hf
    obtain ⟨v4, e3, hf⟩ := m_bndE hf
    exact eqt_t h_S (fq_X0_play_144  hf)
  ·
    obtain ⟨q4, hf⟩ := m_chkE hf
    obtain ⟨v1, e5, hf⟩ := m_bndE hf
    obtain ⟨v2, e6, hf⟩ := m_bndE hf
    exact eqt_t h_S (fq_X0_play_144  hf)
theorem fq_X0_play_91 {o : Int32 × ZS} {x0 : Nat} {x2 : Int32} {x3 : Int32} {x4 : Int32} {x5 : Int32} {t0 : Int32} {S : ZS}  (hf : f_X0_play_91 x0 x2 x3 x4 x5 t0 S = some o)   : EqT S o.2 := by
  have h_S : EqT S S := eqt_0
  unfold f_X0_play_91 at hf
  obtain ⟨q1, hf⟩ := m_chkE hf
  obtain ⟨b1, -, hf⟩ := m_calE hf
  obtain ⟨v2, e2, hf⟩ := m_bndE hf
  obtain ⟨v3, e3, hf⟩ := m_bndE hf
  obtain ⟨q4, hf⟩ := m_chkE hf
  obtain ⟨b4, -, hf⟩ := m_calE hf
  obtain ⟨q5, hf⟩ := m_chkE hf
  obtain ⟨-, hf⟩ := m_chkE hf
  obtain ⟨v5, e6, hf⟩ := m_bndE hf
  obtain ⟨q7, hf⟩ := m_chkE hf
  obtain ⟨-, hf⟩ := m_chkE hf
  obtain ⟨S6, e8, hf⟩ := m_bndE hf
  have h_S6 := eqt_A h_S e8
  obtain ⟨q9, hf⟩ := m_chkE hf
  obtain ⟨b7, -, hf⟩ := m_calE hf
  obtain ⟨q10, hf⟩ := m_chkE hf
  obtain ⟨-, hf⟩ := m_chkE hf
  obtain ⟨S8, e11, hf⟩ := m_bndE hf
  have h_S8 := eqt_A h_S6 e11
  exact eqt_t h_S8 (fq_X0_play_118  hf)
theorem fq_X0_play_66 {o : Int32 × ZS} {x0 : Nat} {x2 : Int32} {x3 : Int32} {x4 : Int32} {x5 : Int32} {S : ZS}  (hf : f_X0_play_66 x0 x2 x3 x4 x5 S = some o)   : EqT S o.2 := by
  have h_S : EqT S S := eqt_0
  unfold f_X0_play_66 at hf
  obtain ⟨q1, hf⟩ := m_chkE hf
  obtain ⟨o1, ho, hf⟩ := m_calE hf
  have h_o1 := eqt_t h_S (fq_X0_castles ho)
  clear ho
  rcases m_ifE hf with ⟨-, hf⟩ | ⟨-, hf⟩
  ·
    exact eqt_t h_o1 (fq_X0_play_118  hf)
  ·
    rcases m_ifE hf with ⟨-, hf⟩ | ⟨-, hf⟩
    ·
      obtain ⟨v2, e2, hf⟩ := m_bndE hf
      exact eqt_t h_o1 (fq_X0_play_91  hf)
    ·
      obtain ⟨v3, e3, hf⟩ := m_bndE hf
      exact eqt_t h_o1 (fq_X0_play_91  hf)
theorem fq_X0_play_36 {o : Int32 × ZS} {x0 : Nat} {x2 : Int32} {x3 : Int32} {x4 : Int32} {t0 : Int32} {S : ZS}  (hf : f_X0_play_36 x0 x2 x3 x4 t0 S = some o)   : EqT S o.2 := by
  have h_S : EqT S S := eqt_0
  unfold f_X0_play_36 at hf
  rcases m_ifE hf with ⟨-, hf⟩ | ⟨-, hf⟩
  ·
    exact eqt_t h_S (fq_X0_play_66  hf)
  ·
    obtain ⟨q1, hf⟩ := m_chkE hf
    rcases m_ifE hf with ⟨-, hf⟩ | ⟨-, hf⟩
    ·
      obtain ⟨q2, hf⟩ := m_chkE hf
      obtain ⟨b1, -, hf⟩ := m_calE hf
      obtain ⟨v2, e3, hf⟩ := m_bndE hf
      obtain ⟨v3, e4, hf⟩ := m_bndE hf
      obtain ⟨v4, e5, hf⟩ := m_bndE hf
      obtain ⟨q6, hf⟩ := m_chkE hf
      obtain ⟨-, hf⟩ := m_chkE hf
      obtain ⟨S5, e7, hf⟩ := m_bndE hf
      have h_S5 := eqt_A h_S e7
      exact eqt_t h_S5 (fq_X0_play_66  hf)
    ·
      exact eqt_t h_S (fq_X0_play_66  hf)
theorem fq_X0_play_0 {o : Int32 × ZS} {x0 : Nat} {x1 : Int32} {S : ZS}  (hf : f_X0_play_0 x0 x1 S = some o)   : EqT S o.2 := by
  have h_S : EqT S S := eqt_0
  unfold f_X0_play_0 at hf
  obtain ⟨v1, e1, hf⟩ := m_bndE hf
  obtain ⟨v2, e2, hf⟩ := m_bndE hf
  obtain ⟨v3, e3, hf⟩ := m_bndE hf
  obtain ⟨v4, e4, hf⟩ := m_bndE hf
  obtain ⟨v5, e5, hf⟩ := m_bndE hf
  obtain ⟨q6, hf⟩ := m_chkE hf
  obtain ⟨o6, ho, hf⟩ := m_calE hf
  have h_o6 := eqt_t h_S (fq_X0_kindAt ho)
  clear ho
  rcases m_ifE hf with ⟨-, hf⟩ | ⟨-, hf⟩
  ·
    exact eqt_t h_o6 (fq_X0_play_36  hf)
  ·
    exact eqt_t h_o6 (fq_X0_play_36  hf)
theorem fq_X0_play {o : Int32 × ZS} {x0 : Nat} {x1 : Int32} {S : ZS}  (hf : f_X0_play x0 x1 S = some o)   : EqT S o.2 := by
  have h_S : EqT S S := eqt_0
  unfold f_X0_play at hf
  exact eqt_t h_S (fq_X0_play_0  hf)
theorem fq_X6_init_0 {o : Int32 × ZS} {x0 : Nat} {S : ZS}  (hf : f_X6_init_0 x0 S = some o)   : EqT S o.2 := by
  have h_S : EqT S S := eqt_0
  unfold f_X6_init_0 at hf
  obtain ⟨q1, hf⟩ := m_chkE hf
  obtain ⟨S1, e2, hf⟩ := m_bndE hf
  have h_S1 := eqt_P h_S e2
  obtain ⟨q3, hf⟩ := m_chkE hf
  obtain ⟨S2, e4, hf⟩ := m_bndE hf
  have h_S2 := eqt_I h_S1 e4
  cases hf
  exact h_S2
theorem fq_X6_init {o : Int32 × ZS} {x0 : Nat} {S : ZS}  (hf : f_X6_init x0 S = some o)   : EqT S o.2 := by
  have h_S : EqT S S := eqt_0
  unfold f_X6_init at hf
  exact eqt_t h_S (fq_X6_init_0  hf)
theorem fq_X6_keep_17 {o : Int32 × ZS} {S : ZS}  (hf : f_X6_keep_17 S = some o)   : EqT S o.2 := by
  have h_S : EqT S S := eqt_0
  unfold f_X6_keep_17 at hf
  cases hf
  exact h_S
theorem fq_X6_keep_0 {o : Int32 × ZS} {x0 : Nat} {x1 : Int32} {S : ZS}  (hf : f_X6_keep_0 x0 x1 S = some o)   : EqT S o.2 := by
  have h_S : EqT S S := eqt_0
  unfold f_X6_keep_0 at hf
  rcases m_ifE hf with ⟨-, hf⟩ | ⟨-, hf⟩
  ·
    exact eqt_t h_S (fq_X6_keep_17  hf)
  ·
    obtain ⟨q1, hf⟩ := m_chkE hf
    rcases m_ifE hf with ⟨-, hf⟩ | ⟨-, hf⟩
    ·
      exact eqt_t h_S (fq_X6_keep_17  hf)
    ·
      obtain ⟨q2, hf⟩ := m_chkE hf
      obtain ⟨S1, e3, hf⟩ := m_bndE hf
      have h_S1 := eqt_I h_S e3
      exact eqt_t h_S1 (fq_X6_keep_17  hf)
theorem fq_X6_keep {o : Int32 × ZS} {x0 : Nat} {x1 : Int32} {S : ZS}  (hf : f_X6_keep x0 x1 S = some o)   : EqT S o.2 := by
  have h_S : EqT S S := eqt_0
  unfold f_X6_keep at hf
  exact eqt_t h_S (fq_X6_keep_0  hf)
theorem fq_X4_become_0 {o : Int32 × ZS} {x0 : Nat} {x1 : Int32} {x2 : Int32} {S : ZS}  (hf : f_X4_become_0 x0 x1 x2 S = some o)   : EqT S o.2 := by
  have h_S : EqT S S := eqt_0
  unfold f_X4_become_0 at hf
  obtain ⟨q1, hf⟩ := m_chkE hf
  obtain ⟨S1, e2, hf⟩ := m_bndE hf
  have h_S1 := eqt_I h_S e2
  obtain ⟨q3, hf⟩ := m_chkE hf
  obtain ⟨S2, e4, hf⟩ := m_bndE hf
  have h_S2 := eqt_I h_S1 e4
  obtain ⟨q5, hf⟩ := m_chkE hf
  obtain ⟨S3, e6, hf⟩ := m_bndE hf
  have h_S3 := eqt_I h_S2 e6
  obtain ⟨q7, hf⟩ := m_chkE hf
  obtain ⟨S4, e8, hf⟩ := m_bndE hf
  have h_S4 := eqt_I h_S3 e8
  obtain ⟨q9, hf⟩ := m_chkE hf
  obtain ⟨S5, e10, hf⟩ := m_bndE hf
  have h_S5 := eqt_I h_S4 e10
  obtain ⟨q11, hf⟩ := m_chkE hf
  obtain ⟨S6, e12, hf⟩ := m_bndE hf
  have h_S6 := eqt_I h_S5 e12
  obtain ⟨q13, hf⟩ := m_chkE hf
  obtain ⟨b7, -, hf⟩ := m_calE hf
  obtain ⟨q14, hf⟩ := m_chkE hf
  obtain ⟨o8, ho, hf⟩ := m_calE hf
  have h_o8 := eqt_t h_S6 (fq_X6_keep ho)
  clear ho
  cases hf
  exact h_o8
theorem fq_X4_become {o : Int32 × ZS} {x0 : Nat} {x1 : Int32} {x2 : Int32} {S : ZS}  (hf : f_X4_become x0 x1 x2 S = some o)   : EqT S o.2 := by
  have h_S : EqT S S := eqt_0
  unfold f_X4_become at hf
  exact eqt_t h_S (fq_X4_become_0  hf)
theorem fq_X1_wipe_0 {o : Int32 × ZS} {x0 : Nat} {S : ZS}  (hf : f_X1_wipe_0 x0 S = some o)   : EqT S o.2 := by
  have h_S : EqT S S := eqt_0
  unfold f_X1_wipe_0 at hf
  obtain ⟨q1, hf⟩ := m_chkE hf
  obtain ⟨b1, -, hf⟩ := m_calE hf
  obtain ⟨q2, hf⟩ := m_chkE hf
  obtain ⟨o2, ho, hf⟩ := m_calE hf
  have h_o2 := eqt_t h_S (fq_X0_setUp ho)
  clear ho
  obtain ⟨q3, hf⟩ := m_chkE hf
  obtain ⟨b3, -, hf⟩ := m_calE hf
  obtain ⟨q4, hf⟩ := m_chkE hf
  obtain ⟨o4, ho, hf⟩ := m_calE hf
  have h_o4 := eqt_t h_o2 (fq_X4_become ho)
  clear ho
  obtain ⟨q5, hf⟩ := m_chkE hf
  obtain ⟨S5, e6, hf⟩ := m_bndE hf
  have h_S5 := eqt_I h_o4 e6
  obtain ⟨q7, hf⟩ := m_chkE hf
  obtain ⟨S6, e8, hf⟩ := m_bndE hf
  have h_S6 := eqt_I h_S5 e8
  obtain ⟨q9, hf⟩ := m_chkE hf
  obtain ⟨S7, e10, hf⟩ := m_bndE hf
  have h_S7 := eqt_I h_S6 e10
  cases hf
  exact h_S7
theorem fq_X1_wipe {o : Int32 × ZS} {x0 : Nat} {S : ZS}  (hf : f_X1_wipe x0 S = some o)   : EqT S o.2 := by
  have h_S : EqT S S := eqt_0
  unfold f_X1_wipe at hf
  exact eqt_t h_S (fq_X1_wipe_0  hf)
theorem fq_X1_has_17 {o : Int32 × ZS} {t0 : Int32} {S : ZS}  (hf : f_X1_has_17 t0 S = some o)   : EqT S o.2 := by
  have h_S : EqT S S := eqt_0
  unfold f_X1_has_17 at hf
  obtain ⟨-, hf⟩ := m_chkE hf
  cases hf
  exact h_S
theorem fq_X1_has_16 {o : Int32 × ZS} {S : ZS}  (hf : f_X1_has_16 S = some o)   : EqT S o.2 := by
  have h_S : EqT S S := eqt_0
  unfold f_X1_has_16 at hf
  exact eqt_t h_S (fq_X1_has_17  hf)
theorem fq_X1_has_0 {o : Int32 × ZS} {x0 : Nat} {x1 : Int32} {S : ZS}  (hf : f_X1_has_0 x0 x1 S = some o)   : EqT S o.2 := by
  have h_S : EqT S S := eqt_0
  unfold f_X1_has_0 at hf
  rcases m_ifE hf with ⟨-, hf⟩ | ⟨-, hf⟩
  ·
    exact eqt_t h_S (fq_X1_has_16  hf)
  ·
    obtain ⟨q1, hf⟩ := m_chkE hf
    rcases m_ifE hf with ⟨-, hf⟩ | ⟨-, hf⟩
    ·
      exact eqt_t h_S (fq_X1_has_16  hf)
    ·
      exact eqt_t h_S (fq_X1_has_17  hf)
theorem fq_X1_has {o : Int32 × ZS} {x0 : Nat} {x1 : Int32} {S : ZS}  (hf : f_X1_has x0 x1 S = some o)   : EqT S o.2 := by
  have h_S : EqT S S := eqt_0
  unfold f_X1_has at hf
  exact eqt_t h_S (fq_X1_has_0  hf)
theorem fq_X1_at_35 {o : Nat × ZS} {t0 : Option Nat} {S : ZS}  (hf : f_X1_at_35 t0 S = some o)   : EqT S o.2 := by
  have h_S : EqT S S := eqt_0
  unfold f_X1_at_35 at hf
  obtain ⟨b1, -, hf⟩ := m_calE hf
  cases hf
  exact h_S
theorem fq_X1_at_22 {o : Nat × ZS} {x0 : Nat} {t0 : Option Nat} {S : ZS}  (hf : f_X1_at_22 x0 t0 S = some o)   : EqT S o.2 := by
  have h_S : EqT S S := eqt_0
  unfold f_X1_at_22 at hf
  rcases m_optE hf with ⟨-, hf⟩ | ⟨b1, -, hf⟩
  ·
    obtain ⟨q1, hf⟩ := m_chkE hf
    obtain ⟨b2, -, hf⟩ := m_calE hf
    exact eqt_t h_S (fq_X1_at_35  hf)
  ·
    exact eqt_t h_S (fq_X1_at_35  hf)
theorem fq_X1_at_21 {o : Nat × ZS} {x0 : Nat} {S : ZS}  (hf : f_X1_at_21 x0 S = some o)   : EqT S o.2 := by
  have h_S : EqT S S := eqt_0
  unfold f_X1_at_21 at hf
  exact eqt_t h_S (fq_X1_at_22  hf)
theorem fq_X1_at_0 {o : Nat × ZS} {x0 : Nat} {x1 : Int32} {S : ZS}  (hf : f_X1_at_0 x0 x1 S = some o)   : EqT S o.2 := by
  have h_S : EqT S S := eqt_0
  unfold f_X1_at_0 at hf
  rcases m_ifE hf with ⟨-, hf⟩ | ⟨-, hf⟩
  ·
    exact eqt_t h_S (fq_X1_at_21  hf)
  ·
    obtain ⟨q1, hf⟩ := m_chkE hf
    rcases m_ifE hf with ⟨-, hf⟩ | ⟨-, hf⟩
    ·
      exact eqt_t h_S (fq_X1_at_21  hf)
    ·
      obtain ⟨q2, hf⟩ := m_chkE hf
      obtain ⟨b1, -, hf⟩ := m_calE hf
      obtain ⟨q3, hf⟩ := m_chkE hf
      obtain ⟨-, hf⟩ := m_chkE hf
      obtain ⟨v2, e4, hf⟩ := m_bndE hf
      exact eqt_t h_S (fq_X1_at_22  hf)
theorem fq_X1_at {o : Nat × ZS} {x0 : Nat} {x1 : Int32} {S : ZS}  (hf : f_X1_at x0 x1 S = some o)   : EqT S o.2 := by
  have h_S : EqT S S := eqt_0
  unfold f_X1_at at hf
  exact eqt_t h_S (fq_X1_at_0  hf)
theorem fq_X1_childWith_52 {o : Int32 × ZS} {x3 : Int32} {S : ZS}  (hf : f_X1_childWith_52 x3 S = some o)   : EqT S o.2 := by
  have h_S : EqT S S := eqt_0
  unfold f_X1_childWith_52 at hf
  cases hf
  exact h_S
theorem fq_X1_childWith_12s {o : Int32 × ZS} {self12 : Nat → Int32 → Int32 → Int32 → ZS → Option (Int32 × ZS)} {x0 : Nat} {x2 : Int32} {x3 : Int32} {x4 : Int32} {S : ZS} (hself12 : ∀ (z0 : Nat) (z1 : Int32) (z2 : Int32) (z3 : Int32) (S : ZS) (o : Int32 × ZS), self12 z0 z1 z2 z3 S = some o → EqT S o.2) (hf : f_X1_childWith_12s self12 x0 x2 x3 x4 S = some o)   : EqT S o.2 := by
  have h_S : EqT S S := eqt_0
  unfold f_X1_childWith_12s at hf
  rcases m_ifE hf with ⟨-, hf⟩ | ⟨-, hf⟩
  ·
    exact eqt_t h_S (fq_X1_childWith_52  hf)
  ·
    rcases m_ifE hf with ⟨-, hf⟩ | ⟨-, hf⟩
    ·
      exact eqt_t h_S (fq_X1_childWith_52  hf)
    ·
      obtain ⟨q1, hf⟩ := m_chkE hf
      obtain ⟨o1, ho, hf⟩ := m_calE hf
      have h_o1 := eqt_t h_S (fq_X1_at ho)
      clear ho
      obtain ⟨q2, hf⟩ := m_chkE hf
      rcases m_ifE hf with ⟨-, hf⟩ | ⟨-, hf⟩
      ·
        exact eqt_t h_o1 (fq_X1_childWith_52  hf)
      ·
        obtain ⟨q3, hf⟩ := m_chkE hf
        obtain ⟨o2, ho, hf⟩ := m_calE hf
        have h_o2 := eqt_t h_o1 (fq_X1_at ho)
        clear ho
        obtain ⟨q4, hf⟩ := m_chkE hf
        obtain ⟨v3, e5, hf⟩ := m_bndE hf
        exact eqt_t h_o2 (hself12 _ _ _ _ _ _ hf)
theorem fq_X1_childWith_12   (n : Nat) : ∀ (y0 : Nat) (y1 : Int32) (y2 : Int32) (y3 : Int32) (S : ZS) (o : Int32 × ZS), f_X1_childWith_12  n y0 y1 y2 y3 S = some o → EqT S o.2 := by
  induction n with
  | zero => intro y0 y1 y2 y3 S o hf; cases hf
  | succ n ih => intro y0 y1 y2 y3 S o hf; exact fq_X1_childWith_12s  ih hf
theorem fq_X1_childWith_0 {o : Int32 × ZS} {x0 : Nat} {x1 : Int32} {x2 : Int32} {S : ZS}  (hf : f_X1_childWith_0 x0 x1 x2 S = some o)   : EqT S o.2 := by
  have h_S : EqT S S := eqt_0
  unfold f_X1_childWith_0 at hf
  obtain ⟨q1, hf⟩ := m_chkE hf
  obtain ⟨o1, ho, hf⟩ := m_calE hf
  have h_o1 := eqt_t h_S (fq_X1_at ho)
  clear ho
  obtain ⟨q2, hf⟩ := m_chkE hf
  exact eqt_t h_o1 (fq_X1_childWith_12  _ _ _ _ _ _ _ hf)
theorem fq_X1_childWith {o : Int32 × ZS} {x0 : Nat} {x1 : Int32} {x2 : Int32} {S : ZS}  (hf : f_X1_childWith x0 x1 x2 S = some o)   : EqT S o.2 := by
  have h_S : EqT S S := eqt_0
  unfold f_X1_childWith at hf
  exact eqt_t h_S (fq_X1_childWith_0  hf)
theorem fq_X1_goesOn_24 {o : Int32 × ZS} {t0 : Int32} {S : ZS}  (hf : f_X1_goesOn_24 t0 S = some o)   : EqT S o.2 := by
  have h_S : EqT S S := eqt_0
  unfold f_X1_goesOn_24 at hf
  obtain ⟨-, hf⟩ := m_chkE hf
  cases hf
  exact h_S
theorem fq_X1_goesOn_0 {o : Int32 × ZS} {x0 : Nat} {x1 : Int32} {S : ZS}  (hf : f_X1_goesOn_0 x0 x1 S = some o)   : EqT S o.2 := by
  have h_S : EqT S S := eqt_0
  unfold f_X1_goesOn_0 at hf
  obtain ⟨q1, hf⟩ := m_chkE hf
  obtain ⟨o1, ho, hf⟩ := m_calE hf
  have h_o1 := eqt_t h_S (fq_X1_at ho)
  clear ho
  obtain ⟨q2, hf⟩ := m_chkE hf
  obtain ⟨q3, hf⟩ := m_chkE hf
  obtain ⟨o2, ho, hf⟩ := m_calE hf
  have h_o2 := eqt_t h_o1 (fq_X1_at ho)
  clear ho
  obtain ⟨q4, hf⟩ := m_chkE hf
  rcases m_ifE hf with ⟨-, hf⟩ | ⟨-, hf⟩
  ·
    exact eqt_t h_o2 (fq_X1_goesOn_24  hf)
  ·
    exact eqt_t h_o2 (fq_X1_goesOn_24  hf)
theorem fq_X1_goesOn {o : Int32 × ZS} {x0 : Nat} {x1 : Int32} {S : ZS}  (hf : f_X1_goesOn x0 x1 S = some o)   : EqT S o.2 := by
  have h_S : EqT S S := eqt_0
  unfold f_X1_goesOn at hf
  exact eqt_t h_S (fq_X1_goesOn_0  hf)
theorem fq_X1_deepOfNext_66 {o : Int32 × ZS} {x2 : Int32} {S : ZS}  (hf : f_X1_deepOfNext_66 x2 S = some o)   : EqT S o.2 := by
  have h_S : EqT S S := eqt_0
  unfold f_X1_deepOfNext_66 at hf
  cases hf
  exact h_S
theorem fq_X1_deepOfNext_49 {o : Int32 × ZS} {self23 : Nat → Int32 → Int32 → Int32 → ZS → Option (Int32 × ZS)} {x0 : Nat} {x3 : Int32} {x4 : Int32} {t0 : Int32} {t1 : Int32} {S : ZS} (hself23 : ∀ (z0 : Nat) (z1 : Int32) (z2 : Int32) (z3 : Int32) (S : ZS) (o : Int32 × ZS), self23 z0 z1 z2 z3 S = some o → EqT S o.2) (hf : f_X1_deepOfNext_49 self23 x0 x3 x4 t0 t1 S = some o)   : EqT S o.2 := by
  have h_S : EqT S S := eqt_0
  unfold f_X1_deepOfNext_49 at hf
  obtain ⟨v1, e1, hf⟩ := m_bndE hf
  obtain ⟨q2, hf⟩ := m_chkE hf
  obtain ⟨o2, ho, hf⟩ := m_calE hf
  have h_o2 := eqt_t h_S (fq_X1_at ho)
  clear ho
  obtain ⟨q3, hf⟩ := m_chkE hf
  obtain ⟨v3, e4, hf⟩ := m_bndE hf
  exact eqt_t h_o2 (hself23 _ _ _ _ _ _ hf)
theorem fq_X1_deepOfNext_23s {o : Int32 × ZS} {self23 : Nat → Int32 → Int32 → Int32 → ZS → Option (Int32 × ZS)} {x0 : Nat} {x2 : Int32} {x3 : Int32} {x4 : Int32} {S : ZS} (hself23 : ∀ (z0 : Nat) (z1 : Int32) (z2 : Int32) (z3 : Int32) (S : ZS) (o : Int32 × ZS), self23 z0 z1 z2 z3 S = some o → EqT S o.2) (hf : f_X1_deepOfNext_23s self23 x0 x2 x3 x4 S = some o)   : EqT S o.2 := by
  have h_S : EqT S S := eqt_0
  unfold f_X1_deepOfNext_23s at hf
  rcases m_ifE hf with ⟨-, hf⟩ | ⟨-, hf⟩
  ·
    exact eqt_t h_S (fq_X1_deepOfNext_66  hf)
  ·
    rcases m_ifE hf with ⟨-, hf⟩ | ⟨-, hf⟩
    ·
      exact eqt_t h_S (fq_X1_deepOfNext_66  hf)
    ·
      obtain ⟨q1, hf⟩ := m_chkE hf
      obtain ⟨o1, ho, hf⟩ := m_calE hf
      have h_o1 := eqt_t h_S (fq_X1_goesOn ho)
      clear ho
      rcases m_ifE hf with ⟨-, hf⟩ | ⟨-, hf⟩
      ·
        exact eqt_t h_o1 (fq_X1_deepOfNext_49 hself23 hf)
      ·
        exact eqt_t h_o1 (fq_X1_deepOfNext_49 hself23 hf)
theorem fq_X1_deepOfNext_23   (n : Nat) : ∀ (y0 : Nat) (y1 : Int32) (y2 : Int32) (y3 : Int32) (S : ZS) (o : Int32 × ZS), f_X1_deepOfNext_23  n y0 y1 y2 y3 S = some o → EqT S o.2 := by
  induction n with
  | zero => intro y0 y1 y2 y3 S o hf; cases hf
  | succ n ih => intro y0 y1 y2 y3 S o hf; exact fq_X1_deepOfNext_23s  ih hf
theorem fq_X1_deepOfNext_17 {o : Int32 × ZS} {x0 : Nat} {x1 : Int32} {t0 : Int32} {S : ZS}  (hf : f_X1_deepOfNext_17 x0 x1 t0 S = some o)   : EqT S o.2 := by
  have h_S : EqT S S := eqt_0
  unfold f_X1_deepOfNext_17 at hf
  exact eqt_t h_S (fq_X1_deepOfNext_23  _ _ _ _ _ _ _ hf)
theorem fq_X1_deepOfNext_0 {o : Int32 × ZS} {x0 : Nat} {x1 : Int32} {S : ZS}  (hf : f_X1_deepOfNext_0 x0 x1 S = some o)   : EqT S o.2 := by
  have h_S : EqT S S := eqt_0
  unfold f_X1_deepOfNext_0 at hf
  obtain ⟨q1, hf⟩ := m_chkE hf
  obtain ⟨o1, ho, hf⟩ := m_calE hf
  have h_o1 := eqt_t h_S (fq_X1_at ho)
  clear ho
  obtain ⟨q2, hf⟩ := m_chkE hf
  rcases m_ifE hf with ⟨-, hf⟩ | ⟨-, hf⟩
  ·
    exact eqt_t h_o1 (fq_X1_deepOfNext_17  hf)
  ·
    exact eqt_t h_o1 (fq_X1_deepOfNext_17  hf)
theorem fq_X1_deepOfNext {o : Int32 × ZS} {x0 : Nat} {x1 : Int32} {S : ZS}  (hf : f_X1_deepOfNext x0 x1 S = some o)   : EqT S o.2 := by
  have h_S : EqT S S := eqt_0
  unfold f_X1_deepOfNext at hf
  exact eqt_t h_S (fq_X1_deepOfNext_0  hf)
theorem fq_X1_mayLead_89 {o : Int32 × ZS} {self11 : Nat → Int32 → Nat → Int32 → ZS → Option (Int32 × ZS)} {x0 : Nat} {x1 : Int32} {x2 : Nat} {x3 : Int32} {t0 : Int32} {t1 : Int32} {t2 : Int32} {t3 : Nat} {S : ZS} (hself11 : ∀ (z0 : Nat) (z1 : Int32) (z2 : Nat) (z3 : Int32) (S : ZS) (o : Int32 × ZS), self11 z0 z1 z2 z3 S = some o → EqT S o.2) (hf : f_X1_mayLead_89 self11 x0 x1 x2 x3 t0 t1 t2 t3 S = some o)   : EqT S o.2 := by
  have h_S : EqT S S := eqt_0
  unfold f_X1_mayLead_89 at hf
  obtain ⟨v1, e1, hf⟩ := m_bndE hf
  obtain ⟨q2, hf⟩ := m_chkE hf
  obtain ⟨-, hf⟩ := m_chkE hf
  obtain ⟨S2, e3, hf⟩ := m_bndE hf
  have h_S2 := eqt_A h_S e3
  obtain ⟨q4, hf⟩ := m_chkE hf
  obtain ⟨-, hf⟩ := m_chkE hf
  obtain ⟨v3, e5, hf⟩ := m_bndE hf
  rcases m_ifE hf with ⟨-, hf⟩ | ⟨-, hf⟩
  ·
    obtain ⟨v4, e6, hf⟩ := m_bndE hf
    exact eqt_t h_S2 (hself11 _ _ _ _ _ _ hf)
  ·
    obtain ⟨-, hf⟩ := m_chkE hf
    cases hf
    exact h_S2
theorem fq_X1_mayLead_78 {o : Int32 × ZS} {self11 : Nat → Int32 → Nat → Int32 → ZS → Option (Int32 × ZS)} {x0 : Nat} {x1 : Int32} {x2 : Nat} {x3 : Int32} {x5 : Int32} {t0 : Int32} {t1 : Int32} {t2 : Nat} {S : ZS} (hself11 : ∀ (z0 : Nat) (z1 : Int32) (z2 : Nat) (z3 : Int32) (S : ZS) (o : Int32 × ZS), self11 z0 z1 z2 z3 S = some o → EqT S o.2) (hf : f_X1_mayLead_78 self11 x0 x1 x2 x3 x5 t0 t1 t2 S = some o)   : EqT S o.2 := by
  have h_S : EqT S S := eqt_0
  unfold f_X1_mayLead_78 at hf
  rcases m_ifE hf with ⟨-, hf⟩ | ⟨-, hf⟩
  ·
    exact eqt_t h_S (fq_X1_mayLead_89 hself11 hf)
  ·
    exact eqt_t h_S (fq_X1_mayLead_89 hself11 hf)
theorem fq_X1_mayLead_77 {o : Int32 × ZS} {self11 : Nat → Int32 → Nat → Int32 → ZS → Option (Int32 × ZS)} {x0 : Nat} {x1 : Int32} {x2 : Nat} {x3 : Int32} {x5 : Int32} {t0 : Int32} {t1 : Nat} {S : ZS} (hself11 : ∀ (z0 : Nat) (z1 : Int32) (z2 : Nat) (z3 : Int32) (S : ZS) (o : Int32 × ZS), self11 z0 z1 z2 z3 S = some o → EqT S o.2) (hf : f_X1_mayLead_77 self11 x0 x1 x2 x3 x5 t0 t1 S = some o)   : EqT S o.2 := by
  have h_S : EqT S S := eqt_0
  unfold f_X1_mayLead_77 at hf
  exact eqt_t h_S (fq_X1_mayLead_78 hself11 hf)
theorem fq_X1_mayLead_55 {o : Int32 × ZS} {self11 : Nat → Int32 → Nat → Int32 → ZS → Option (Int32 × ZS)} {x0 : Nat} {x1 : Int32} {x2 : Nat} {x3 : Int32} {x4 : Int32} {t0 : Int32} {S : ZS} (hself11 : ∀ (z0 : Nat) (z1 : Int32) (z2 : Nat) (z3 : Int32) (S : ZS) (o : Int32 × ZS), self11 z0 z1 z2 z3 S = some o → EqT S o.2) (hf : f_X1_mayLead_55 self11 x0 x1 x2 x3 x4 t0 S = some o)   : EqT S o.2 := by
  have h_S : EqT S S := eqt_0
  unfold f_X1_mayLead_55 at hf
  rcases m_ifE hf with ⟨-, hf⟩ | ⟨-, hf⟩
  ·
    exact eqt_t h_S (fq_X1_mayLead_77 hself11 hf)
  ·
    rcases m_ifE hf with ⟨-, hf⟩ | ⟨-, hf⟩
    ·
      exact eqt_t h_S (fq_X1_mayLead_77 hself11 hf)
    ·
      obtain ⟨q1, hf⟩ := m_chkE hf
      obtain ⟨-, hf⟩ := m_chkE hf
      obtain ⟨v1, e2, hf⟩ := m_bndE hf
      exact eqt_t h_S (fq_X1_mayLead_78 hself11 hf)
theorem fq_X1_mayLead_11s {o : Int32 × ZS} {self11 : Nat → Int32 → Nat → Int32 → ZS → Option (Int32 × ZS)} {x0 : Nat} {x1 : Int32} {x2 : Nat} {x3 : Int32} {S : ZS} (hself11 : ∀ (z0 : Nat) (z1 : Int32) (z2 : Nat) (z3 : Int32) (S : ZS) (o : Int32 × ZS), self11 z0 z1 z2 z3 S = some o → EqT S o.2) (hf : f_X1_mayLead_11s self11 x0 x1 x2 x3 S = some o)   : EqT S o.2 := by
  have h_S : EqT S S := eqt_0
  unfold f_X1_mayLead_11s at hf
  obtain ⟨q1, hf⟩ := m_chkE hf
  rcases m_ifE hf with ⟨-, hf⟩ | ⟨-, hf⟩
  ·
    obtain ⟨-, hf⟩ := m_chkE hf
    cases hf
    exact h_S
  ·
    obtain ⟨q2, hf⟩ := m_chkE hf
    obtain ⟨o1, ho, hf⟩ := m_calE hf
    have h_o1 := eqt_t h_S (fq_X1_at ho)
    clear ho
    obtain ⟨q3, hf⟩ := m_chkE hf
    obtain ⟨q4, hf⟩ := m_chkE hf
    obtain ⟨o2, ho, hf⟩ := m_calE hf
    have h_o2 := eqt_t h_o1 (fq_X1_at ho)
    clear ho
    obtain ⟨q5, hf⟩ := m_chkE hf
    rcases m_ifE hf with ⟨-, hf⟩ | ⟨-, hf⟩
    ·
      exact eqt_t h_o2 (fq_X1_mayLead_55 hself11 hf)
    ·
      obtain ⟨q6, hf⟩ := m_chkE hf
      obtain ⟨o3, ho, hf⟩ := m_calE hf
      have h_o3 := eqt_t h_o2 (fq_X1_at ho)
      clear ho
      obtain ⟨q7, hf⟩ := m_chkE hf
      exact eqt_t h_o3 (fq_X1_mayLead_55 hself11 hf)
theorem fq_X1_mayLead_11   (n : Nat) : ∀ (y0 : Nat) (y1 : Int32) (y2 : Nat) (y3 : Int32) (S : ZS) (o : Int32 × ZS), f_X1_mayLead_11  n y0 y1 y2 y3 S = some o → EqT S o.2 := by
  induction n with
  | zero => intro y0 y1 y2 y3 S o hf; cases hf
  | succ n ih => intro y0 y1 y2 y3 S o hf; exact fq_X1_mayLead_11s  ih hf
theorem fq_X1_mayLead_0 {o : Int32 × ZS} {x0 : Nat} {x1 : Int32} {S : ZS}  (hf : f_X1_mayLead_0 x0 x1 S = some o)   : EqT S o.2 := by
  have h_S : EqT S S := eqt_0
  unfold f_X1_mayLead_0 at hf
  obtain ⟨q1, hf⟩ := m_chkE hf
  obtain ⟨b1, -, hf⟩ := m_calE hf
  obtain ⟨q2, hf⟩ := m_chkE hf
  obtain ⟨-, hf⟩ := m_chkE hf
  obtain ⟨S2, e3, hf⟩ := m_bndE hf
  have h_S2 := eqt_A h_S e3
  exact eqt_t h_S2 (fq_X1_mayLead_11  _ _ _ _ _ _ _ hf)
theorem fq_X1_mayLead {o : Int32 × ZS} {x0 : Nat} {x1 : Int32} {S : ZS}  (hf : f_X1_mayLead x0 x1 S = some o)   : EqT S o.2 := by
  have h_S : EqT S S := eqt_0
  unfold f_X1_mayLead at hf
  exact eqt_t h_S (fq_X1_mayLead_0  hf)
theorem fq_X1_putFirst_56 {o : Int32 × ZS} {x0 : Nat} {x1 : Int32} {x2 : Nat} {x3 : Int32} {S : ZS}  (hf : f_X1_putFirst_56 x0 x1 x2 x3 S = some o)   : EqT S o.2 := by
  have h_S : EqT S S := eqt_0
  unfold f_X1_putFirst_56 at hf
  obtain ⟨q1, hf⟩ := m_chkE hf
  obtain ⟨o1, ho, hf⟩ := m_calE hf
  have h_o1 := eqt_t h_S (fq_X1_at ho)
  clear ho
  obtain ⟨q2, hf⟩ := m_chkE hf
  obtain ⟨o2, ho, hf⟩ := m_calE hf
  have h_o2 := eqt_t h_o1 (fq_X1_at ho)
  clear ho
  obtain ⟨q3, hf⟩ := m_chkE hf
  obtain ⟨q4, hf⟩ := m_chkE hf
  obtain ⟨S3, e5, hf⟩ := m_bndE hf
  have h_S3 := eqt_I h_o2 e5
  obtain ⟨q6, hf⟩ := m_chkE hf
  obtain ⟨o4, ho, hf⟩ := m_calE hf
  have h_o4 := eqt_t h_S3 (fq_X1_at ho)
  clear ho
  obtain ⟨q7, hf⟩ := m_chkE hf
  obtain ⟨q8, hf⟩ := m_chkE hf
  obtain ⟨S5, e9, hf⟩ := m_bndE hf
  have h_S5 := eqt_I h_o4 e9
  obtain ⟨q10, hf⟩ := m_chkE hf
  obtain ⟨S6, e11, hf⟩ := m_bndE hf
  have h_S6 := eqt_I h_S5 e11
  cases hf
  exact h_S6
theorem fq_X1_putFirst_21s {o : Int32 × ZS} {self21 : Nat → Int32 → Nat → Int32 → Int32 → ZS → Option (Int32 × ZS)} {x0 : Nat} {x1 : Int32} {x2 : Nat} {x3 : Int32} {x4 : Int32} {S : ZS} (hself21 : ∀ (z0 : Nat) (z1 : Int32) (z2 : Nat) (z3 : Int32) (z4 : Int32) (S : ZS) (o : Int32 × ZS), self21 z0 z1 z2 z3 z4 S = some o → EqT S o.2) (hf : f_X1_putFirst_21s self21 x0 x1 x2 x3 x4 S = some o)   : EqT S o.2 := by
  have h_S : EqT S S := eqt_0
  unfold f_X1_putFirst_21s at hf
  rcases m_ifE hf with ⟨-, hf⟩ | ⟨-, hf⟩
  ·
    exact eqt_t h_S (fq_X1_putFirst_56  hf)
  ·
    obtain ⟨q1, hf⟩ := m_chkE hf
    obtain ⟨o1, ho, hf⟩ := m_calE hf
    have h_o1 := eqt_t h_S (fq_X1_at ho)
    clear ho
    obtain ⟨q2, hf⟩ := m_chkE hf
    rcases m_ifE hf with ⟨-, hf⟩ | ⟨-, hf⟩
    ·
      exact eqt_t h_o1 (fq_X1_putFirst_56  hf)
    ·
      obtain ⟨q3, hf⟩ := m_chkE hf
      obtain ⟨o2, ho, hf⟩ := m_calE hf
      have h_o2 := eqt_t h_o1 (fq_X1_at ho)
      clear ho
      obtain ⟨q4, hf⟩ := m_chkE hf
      obtain ⟨v3, e5, hf⟩ := m_bndE hf
      exact eqt_t h_o2 (hself21 _ _ _ _ _ _ _ hf)
theorem fq_X1_putFirst_21   (n : Nat) : ∀ (y0 : Nat) (y1 : Int32) (y2 : Nat) (y3 : Int32) (y4 : Int32) (S : ZS) (o : Int32 × ZS), f_X1_putFirst_21  n y0 y1 y2 y3 y4 S = some o → EqT S o.2 := by
  induction n with
  | zero => intro y0 y1 y2 y3 y4 S o hf; cases hf
  | succ n ih => intro y0 y1 y2 y3 y4 S o hf; exact fq_X1_putFirst_21s  ih hf
theorem fq_X1_putFirst_0 {o : Int32 × ZS} {x0 : Nat} {x1 : Int32} {S : ZS}  (hf : f_X1_putFirst_0 x0 x1 S = some o)   : EqT S o.2 := by
  have h_S : EqT S S := eqt_0
  unfold f_X1_putFirst_0 at hf
  obtain ⟨q1, hf⟩ := m_chkE hf
  obtain ⟨o1, ho, hf⟩ := m_calE hf
  have h_o1 := eqt_t h_S (fq_X1_at ho)
  clear ho
  obtain ⟨q2, hf⟩ := m_chkE hf
  obtain ⟨q3, hf⟩ := m_chkE hf
  obtain ⟨o2, ho, hf⟩ := m_calE hf
  have h_o2 := eqt_t h_o1 (fq_X1_at ho)
  clear ho
  obtain ⟨q4, hf⟩ := m_chkE hf
  exact eqt_t h_o2 (fq_X1_putFirst_21  _ _ _ _ _ _ _ _ hf)
theorem fq_X1_putFirst {o : Int32 × ZS} {x0 : Nat} {x1 : Int32} {S : ZS}  (hf : f_X1_putFirst x0 x1 S = some o)   : EqT S o.2 := by
  have h_S : EqT S S := eqt_0
  unfold f_X1_putFirst at hf
  exact eqt_t h_S (fq_X1_putFirst_0  hf)
theorem fq_X1_standAt_68s {o : Int32 × ZS} {self68 : Nat → Nat → Int32 → ZS → Option (Int32 × ZS)} {x2 : Nat} {x3 : Nat} {x5 : Int32} {S : ZS} (hself68 : ∀ (z0 : Nat) (z1 : Nat) (z2 : Int32) (S : ZS) (o : Int32 × ZS), self68 z0 z1 z2 S = some o → EqT S o.2) (hf : f_X1_standAt_68s self68 x2 x3 x5 S = some o)   : EqT S o.2 := by
  have h_S : EqT S S := eqt_0
  unfold f_X1_standAt_68s at hf
  rcases m_ifE hf with ⟨-, hf⟩ | ⟨-, hf⟩
  ·
    cases hf
    exact h_S
  ·
    obtain ⟨q1, hf⟩ := m_chkE hf
    obtain ⟨-, hf⟩ := m_chkE hf
    obtain ⟨v1, e2, hf⟩ := m_bndE hf
    obtain ⟨q3, hf⟩ := m_chkE hf
    obtain ⟨o2, ho, hf⟩ := m_calE hf
    have h_o2 := eqt_t h_S (fq_X0_play ho)
    clear ho
    obtain ⟨v3, e4, hf⟩ := m_bndE hf
    exact eqt_t h_o2 (hself68 _ _ _ _ _ hf)
theorem fq_X1_standAt_68   (n : Nat) : ∀ (y0 : Nat) (y1 : Nat) (y2 : Int32) (S : ZS) (o : Int32 × ZS), f_X1_standAt_68  n y0 y1 y2 S = some o → EqT S o.2 := by
  induction n with
  | zero => intro y0 y1 y2 S o hf; cases hf
  | succ n ih => intro y0 y1 y2 S o hf; exact fq_X1_standAt_68s  ih hf
theorem fq_X1_standAt_54 {o : Int32 × ZS} {x0 : Nat} {x2 : Nat} {x3 : Nat} {x4 : Int32} {S : ZS}  (hf : f_X1_standAt_54 x0 x2 x3 x4 S = some o)   : EqT S o.2 := by
  have h_S : EqT S S := eqt_0
  unfold f_X1_standAt_54 at hf
  obtain ⟨q1, hf⟩ := m_chkE hf
  obtain ⟨b1, -, hf⟩ := m_calE hf
  obtain ⟨q2, hf⟩ := m_chkE hf
  obtain ⟨o2, ho, hf⟩ := m_calE hf
  have h_o2 := eqt_t h_S (fq_X0_copyFrom ho)
  clear ho
  obtain ⟨v3, e3, hf⟩ := m_bndE hf
  exact eqt_t h_o2 (fq_X1_standAt_68  _ _ _ _ _ _ hf)
theorem fq_X1_standAt_11s {o : Int32 × ZS} {self11 : Nat → Nat → Nat → Int32 → Int32 → ZS → Option (Int32 × ZS)} {x0 : Nat} {x2 : Nat} {x3 : Nat} {x4 : Int32} {x5 : Int32} {S : ZS} (hself11 : ∀ (z0 : Nat) (z1 : Nat) (z2 : Nat) (z3 : Int32) (z4 : Int32) (S : ZS) (o : Int32 × ZS), self11 z0 z1 z2 z3 z4 S = some o → EqT S o.2) (hf : f_X1_standAt_11s self11 x0 x2 x3 x4 x5 S = some o)   : EqT S o.2 := by
  have h_S : EqT S S := eqt_0
  unfold f_X1_standAt_11s at hf
  rcases m_ifE hf with ⟨-, hf⟩ | ⟨-, hf⟩
  ·
    exact eqt_t h_S (fq_X1_standAt_54  hf)
  ·
    rcases m_ifE hf with ⟨-, hf⟩ | ⟨-, hf⟩
    ·
      exact eqt_t h_S (fq_X1_standAt_54  hf)
    ·
      obtain ⟨q1, hf⟩ := m_chkE hf
      obtain ⟨o1, ho, hf⟩ := m_calE hf
      have h_o1 := eqt_t h_S (fq_X1_at ho)
      clear ho
      obtain ⟨q2, hf⟩ := m_chkE hf
      obtain ⟨q3, hf⟩ := m_chkE hf
      obtain ⟨-, hf⟩ := m_chkE hf
      obtain ⟨S2, e4, hf⟩ := m_bndE hf
      have h_S2 := eqt_A h_o1 e4
      obtain ⟨v3, e5, hf⟩ := m_bndE hf
      obtain ⟨q6, hf⟩ := m_chkE hf
      obtain ⟨o4, ho, hf⟩ := m_calE hf
      have h_o4 := eqt_t h_S2 (fq_X1_at ho)
      clear ho
      obtain ⟨q7, hf⟩ := m_chkE hf
      exact eqt_t h_o4 (hself11 _ _ _ _ _ _ _ hf)
theorem fq_X1_standAt_11   (n : Nat) : ∀ (y0 : Nat) (y1 : Nat) (y2 : Nat) (y3 : Int32) (y4 : Int32) (S : ZS) (o : Int32 × ZS), f_X1_standAt_11  n y0 y1 y2 y3 y4 S = some o → EqT S o.2 := by
  induction n with
  | zero => intro y0 y1 y2 y3 y4 S o hf; cases hf
  | succ n ih => intro y0 y1 y2 y3 y4 S o hf; exact fq_X1_standAt_11s  ih hf
theorem fq_X1_standAt_0 {o : Int32 × ZS} {x0 : Nat} {x1 : Int32} {x2 : Nat} {S : ZS}  (hf : f_X1_standAt_0 x0 x1 x2 S = some o)   : EqT S o.2 := by
  have h_S : EqT S S := eqt_0
  unfold f_X1_standAt_0 at hf
  obtain ⟨q1, hf⟩ := m_chkE hf
  obtain ⟨b1, -, hf⟩ := m_calE hf
  exact eqt_t h_S (fq_X1_standAt_11  _ _ _ _ _ _ _ _ hf)
theorem fq_X1_standAt {o : Int32 × ZS} {x0 : Nat} {x1 : Int32} {x2 : Nat} {S : ZS}  (hf : f_X1_standAt x0 x1 x2 S = some o)   : EqT S o.2 := by
  have h_S : EqT S S := eqt_0
  unfold f_X1_standAt at hf
  exact eqt_t h_S (fq_X1_standAt_0  hf)
theorem fq_X6_at_22 {o : Int32 × ZS} {t0 : Int32} {S : ZS}  (hf : f_X6_at_22 t0 S = some o)   : EqT S o.2 := by
  have h_S : EqT S S := eqt_0
  unfold f_X6_at_22 at hf
  obtain ⟨-, hf⟩ := m_chkE hf
  cases hf
  exact h_S
theorem fq_X6_at_21 {o : Int32 × ZS} {S : ZS}  (hf : f_X6_at_21 S = some o)   : EqT S o.2 := by
  have h_S : EqT S S := eqt_0
  unfold f_X6_at_21 at hf
  exact eqt_t h_S (fq_X6_at_22  hf)
theorem fq_X6_at_0 {o : Int32 × ZS} {x0 : Nat} {x1 : Int32} {S : ZS}  (hf : f_X6_at_0 x0 x1 S = some o)   : EqT S o.2 := by
  have h_S : EqT S S := eqt_0
  unfold f_X6_at_0 at hf
  rcases m_ifE hf with ⟨-, hf⟩ | ⟨-, hf⟩
  ·
    exact eqt_t h_S (fq_X6_at_21  hf)
  ·
    obtain ⟨q1, hf⟩ := m_chkE hf
    rcases m_ifE hf with ⟨-, hf⟩ | ⟨-, hf⟩
    ·
      exact eqt_t h_S (fq_X6_at_21  hf)
    ·
      obtain ⟨q2, hf⟩ := m_chkE hf
      obtain ⟨b1, -, hf⟩ := m_calE hf
      obtain ⟨q3, hf⟩ := m_chkE hf
      obtain ⟨-, hf⟩ := m_chkE hf
      obtain ⟨v2, e4, hf⟩ := m_bndE hf
      exact eqt_t h_S (fq_X6_at_22  hf)
theorem fq_X6_at {o : Int32 × ZS} {x0 : Nat} {x1 : Int32} {S : ZS}  (hf : f_X6_at x0 x1 S = some o)   : EqT S o.2 := by
  have h_S : EqT S S := eqt_0
  unfold f_X6_at at hf
  exact eqt_t h_S (fq_X6_at_0  hf)
theorem fq_X6_isLike_15s {o : Int32 × ZS} {self15 : Nat → Nat → Int32 → ZS → Option (Int32 × ZS)} {x0 : Nat} {x1 : Nat} {x2 : Int32} {S : ZS} (hself15 : ∀ (z0 : Nat) (z1 : Nat) (z2 : Int32) (S : ZS) (o : Int32 × ZS), self15 z0 z1 z2 S = some o → EqT S o.2) (hf : f_X6_isLike_15s self15 x0 x1 x2 S = some o)   : EqT S o.2 := by
  have h_S : EqT S S := eqt_0
  unfold f_X6_isLike_15s at hf
  obtain ⟨q1, hf⟩ := m_chkE hf
  rcases m_ifE hf with ⟨-, hf⟩ | ⟨-, hf⟩
  ·
    obtain ⟨-, hf⟩ := m_chkE hf
    cases hf
    exact h_S
  ·
    obtain ⟨q2, hf⟩ := m_chkE hf
    obtain ⟨b1, -, hf⟩ := m_calE hf
    obtain ⟨q3, hf⟩ := m_chkE hf
    obtain ⟨-, hf⟩ := m_chkE hf
    obtain ⟨v2, e4, hf⟩ := m_bndE hf
    obtain ⟨q5, hf⟩ := m_chkE hf
    obtain ⟨o3, ho, hf⟩ := m_calE hf
    have h_o3 := eqt_t h_S (fq_X6_at ho)
    clear ho
    rcases m_ifE hf with ⟨-, hf⟩ | ⟨-, hf⟩
    ·
      obtain ⟨v4, e6, hf⟩ := m_bndE hf
      exact eqt_t h_o3 (hself15 _ _ _ _ _ hf)
    ·
      obtain ⟨-, hf⟩ := m_chkE hf
      cases hf
      exact h_o3
theorem fq_X6_isLike_15   (n : Nat) : ∀ (y0 : Nat) (y1 : Nat) (y2 : Int32) (S : ZS) (o : Int32 × ZS), f_X6_isLike_15  n y0 y1 y2 S = some o → EqT S o.2 := by
  induction n with
  | zero => intro y0 y1 y2 S o hf; cases hf
  | succ n ih => intro y0 y1 y2 S o hf; exact fq_X6_isLike_15s  ih hf
theorem fq_X6_isLike_0 {o : Int32 × ZS} {x0 : Nat} {x1 : Nat} {S : ZS}  (hf : f_X6_isLike_0 x0 x1 S = some o)   : EqT S o.2 := by
  have h_S : EqT S S := eqt_0
  unfold f_X6_isLike_0 at hf
  obtain ⟨q1, hf⟩ := m_chkE hf
  obtain ⟨q2, hf⟩ := m_chkE hf
  rcases m_ifE hf with ⟨-, hf⟩ | ⟨-, hf⟩
  ·
    exact eqt_t h_S (fq_X6_isLike_15  _ _ _ _ _ _ hf)
  ·
    obtain ⟨-, hf⟩ := m_chkE hf
    cases hf
    exact h_S
theorem fq_X6_isLike {o : Int32 × ZS} {x0 : Nat} {x1 : Nat} {S : ZS}  (hf : f_X6_isLike x0 x1 S = some o)   : EqT S o.2 := by
  have h_S : EqT S S := eqt_0
  unfold f_X6_isLike at hf
  exact eqt_t h_S (fq_X6_isLike_0  hf)
theorem fq_J0_coder_7d493_14 {o : Int32 × ZS} {t0 : Int32} {S : ZS}  (hf : f_J0_coder_7d493_14 t0 S = some o)   : EqT S o.2 := by
  have h_S : EqT S S := eqt_0
  unfold f_J0_coder_7d493_14 at hf
  obtain ⟨-, hf⟩ := m_chkE hf
  cases hf
  exact h_S
theorem fq_J0_coder_7d493_0 {o : Int32 × ZS} {x0 : Nat} {S : ZS}  (hf : f_J0_coder_7d493_0 x0 S = some o)   : EqT S o.2 := by
  have h_S : EqT S S := eqt_0
  unfold f_J0_coder_7d493_0 at hf
  rcases m_ifE hf with ⟨-, hf⟩ | ⟨-, hf⟩
  ·
    exact eqt_t h_S (fq_J0_coder_7d493_14  hf)
  ·
    obtain ⟨-, hf⟩ := m_chkE hf
    exact eqt_t h_S (fq_J0_coder_7d493_14  hf)
theorem fq_J0_coder_7d493 {o : Int32 × ZS} {x0 : Nat} {S : ZS}  (hf : f_J0_coder_7d493 x0 S = some o)   : EqT S o.2 := by
  have h_S : EqT S S := eqt_0
  unfold f_J0_coder_7d493 at hf
  exact eqt_t h_S (fq_J0_coder_7d493_0  hf)
theorem fq_J0_length_8abf5_0 {o : Int32 × ZS} {x0 : Nat} {S : ZS}  (hf : f_J0_length_8abf5_0 x0 S = some o)   : EqT S o.2 := by
  have h_S : EqT S S := eqt_0
  unfold f_J0_length_8abf5_0 at hf
  obtain ⟨-, hf⟩ := m_chkE hf
  obtain ⟨-, hf⟩ := m_chkE hf
  obtain ⟨v1, e1, hf⟩ := m_bndE hf
  obtain ⟨-, hf⟩ := m_chkE hf
  obtain ⟨o2, ho, hf⟩ := m_calE hf
  have h_o2 := eqt_t h_S (fq_J0_coder_7d493 ho)
  clear ho
  obtain ⟨v3, e2, hf⟩ := m_bndE hf
  cases hf
  exact h_o2
theorem fq_J0_length_8abf5 {o : Int32 × ZS} {x0 : Nat} {S : ZS}  (hf : f_J0_length_8abf5 x0 S = some o)   : EqT S o.2 := by
  have h_S : EqT S S := eqt_0
  unfold f_J0_length_8abf5 at hf
  exact eqt_t h_S (fq_J0_length_8abf5_0  hf)
theorem fq_J0_isLatin1_aae02_18 {o : Int32 × ZS} {t0 : Int32} {S : ZS}  (hf : f_J0_isLatin1_aae02_18 t0 S = some o)   : EqT S o.2 := by
  have h_S : EqT S S := eqt_0
  unfold f_J0_isLatin1_aae02_18 at hf
  obtain ⟨-, hf⟩ := m_chkE hf
  cases hf
  exact h_S
theorem fq_J0_isLatin1_aae02_17 {o : Int32 × ZS} {S : ZS}  (hf : f_J0_isLatin1_aae02_17 S = some o)   : EqT S o.2 := by
  have h_S : EqT S S := eqt_0
  unfold f_J0_isLatin1_aae02_17 at hf
  exact eqt_t h_S (fq_J0_isLatin1_aae02_18  hf)
theorem fq_J0_isLatin1_aae02_0 {o : Int32 × ZS} {x0 : Nat} {S : ZS}  (hf : f_J0_isLatin1_aae02_0 x0 S = some o)   : EqT S o.2 := by
  have h_S : EqT S S := eqt_0
  unfold f_J0_isLatin1_aae02_0 at hf
  rcases m_ifE hf with ⟨-, hf⟩ | ⟨-, hf⟩
  ·
    exact eqt_t h_S (fq_J0_isLatin1_aae02_17  hf)
  ·
    obtain ⟨-, hf⟩ := m_chkE hf
    rcases m_ifE hf with ⟨-, hf⟩ | ⟨-, hf⟩
    ·
      exact eqt_t h_S (fq_J0_isLatin1_aae02_18  hf)
    ·
      exact eqt_t h_S (fq_J0_isLatin1_aae02_17  hf)
theorem fq_J0_isLatin1_aae02 {o : Int32 × ZS} {x0 : Nat} {S : ZS}  (hf : f_J0_isLatin1_aae02 x0 S = some o)   : EqT S o.2 := by
  have h_S : EqT S S := eqt_0
  unfold f_J0_isLatin1_aae02 at hf
  exact eqt_t h_S (fq_J0_isLatin1_aae02_0  hf)
theorem fq_J3_checkIndex_8e157_0 {o : Int32 × ZS} {x0 : Int32} {x1 : Int32} {S : ZS}  (hf : f_J3_checkIndex_8e157_0 x0 x1 S = some o)   : EqT S o.2 := by
  have h_S : EqT S S := eqt_0
  unfold f_J3_checkIndex_8e157_0 at hf
  rcases m_ifE hf with ⟨-, hf⟩ | ⟨-, hf⟩
  ·
    cases hf
  ·
    rcases m_ifE hf with ⟨-, hf⟩ | ⟨-, hf⟩
    ·
      cases hf
      exact h_S
    ·
      cases hf
theorem fq_J3_checkIndex_8e157 {o : Int32 × ZS} {x0 : Int32} {x1 : Int32} {S : ZS}  (hf : f_J3_checkIndex_8e157 x0 x1 S = some o)   : EqT S o.2 := by
  have h_S : EqT S S := eqt_0
  unfold f_J3_checkIndex_8e157 at hf
  exact eqt_t h_S (fq_J3_checkIndex_8e157_0  hf)
theorem fq_J0_checkIndex_df160_0 {o : Int32 × ZS} {x0 : Int32} {x1 : Int32} {S : ZS}  (hf : f_J0_checkIndex_df160_0 x0 x1 S = some o)   : EqT S o.2 := by
  have h_S : EqT S S := eqt_0
  unfold f_J0_checkIndex_df160_0 at hf
  obtain ⟨o1, ho, hf⟩ := m_calE hf
  have h_o1 := eqt_t h_S (fq_J3_checkIndex_8e157 ho)
  clear ho
  cases hf
  exact h_o1
theorem fq_J0_checkIndex_df160 {o : Int32 × ZS} {x0 : Int32} {x1 : Int32} {S : ZS}  (hf : f_J0_checkIndex_df160 x0 x1 S = some o)   : EqT S o.2 := by
  have h_S : EqT S S := eqt_0
  unfold f_J0_checkIndex_df160 at hf
  exact eqt_t h_S (fq_J0_checkIndex_df160_0  hf)
theorem fq_J1_charAt_3b067_0 {o : Int32 × ZS} {x0 : Nat} {x1 : Int32} {S : ZS}  (hf : f_J1_charAt_3b067_0 x0 x1 S = some o)   : EqT S o.2 := by
  have h_S : EqT S S := eqt_0
  unfold f_J1_charAt_3b067_0 at hf
  obtain ⟨-, hf⟩ := m_chkE hf
  obtain ⟨v1, e1, hf⟩ := m_bndE hf
  obtain ⟨o2, ho, hf⟩ := m_calE hf
  have h_o2 := eqt_t h_S (fq_J0_checkIndex_df160 ho)
  clear ho
  obtain ⟨-, hf⟩ := m_chkE hf
  obtain ⟨-, hf⟩ := m_chkE hf
  obtain ⟨v3, e2, hf⟩ := m_bndE hf
  obtain ⟨v4, e3, hf⟩ := m_bndE hf
  obtain ⟨v5, e4, hf⟩ := m_bndE hf
  obtain ⟨-, hf⟩ := m_chkE hf
  cases hf
  exact h_o2
theorem fq_J1_charAt_3b067 {o : Int32 × ZS} {x0 : Nat} {x1 : Int32} {S : ZS}  (hf : f_J1_charAt_3b067 x0 x1 S = some o)   : EqT S o.2 := by
  have h_S : EqT S S := eqt_0
  unfold f_J1_charAt_3b067 at hf
  exact eqt_t h_S (fq_J1_charAt_3b067_0  hf)
theorem fq_J0_charAt_5068e_0 {o : Int32 × ZS} {x0 : Nat} {x1 : Int32} {S : ZS}  (hf : f_J0_charAt_5068e_0 x0 x1 S = some o)   : EqT S o.2 := by
  have h_S : EqT S S := eqt_0
  unfold f_J0_charAt_5068e_0 at hf
  obtain ⟨-, hf⟩ := m_chkE hf
  obtain ⟨o1, ho, hf⟩ := m_calE hf
  have h_o1 := eqt_t h_S (fq_J0_isLatin1_aae02 ho)
  clear ho
  rcases m_ifE hf with ⟨-, hf⟩ | ⟨-, hf⟩
  ·
    cases hf
  ·
    obtain ⟨-, hf⟩ := m_chkE hf
    obtain ⟨o2, ho, hf⟩ := m_calE hf
    have h_o2 := eqt_t h_o1 (fq_J1_charAt_3b067 ho)
    clear ho
    obtain ⟨-, hf⟩ := m_chkE hf
    cases hf
    exact h_o2
theorem fq_J0_charAt_5068e {o : Int32 × ZS} {x0 : Nat} {x1 : Int32} {S : ZS}  (hf : f_J0_charAt_5068e x0 x1 S = some o)   : EqT S o.2 := by
  have h_S : EqT S S := eqt_0
  unfold f_J0_charAt_5068e at hf
  exact eqt_t h_S (fq_J0_charAt_5068e_0  hf)
theorem fq_X6_holds_17 {o : Int32 × ZS} {S : ZS}  (hf : f_X6_holds_17 S = some o)   : EqT S o.2 := by
  have h_S : EqT S S := eqt_0
  unfold f_X6_holds_17 at hf
  obtain ⟨-, hf⟩ := m_chkE hf
  cases hf
  exact h_S
theorem fq_X6_holds_21s {o : Int32 × ZS} {self21 : Nat → Nat → Int32 → Int32 → ZS → Option (Int32 × ZS)} {x0 : Nat} {x1 : Nat} {x2 : Int32} {x3 : Int32} {S : ZS} (hself21 : ∀ (z0 : Nat) (z1 : Nat) (z2 : Int32) (z3 : Int32) (S : ZS) (o : Int32 × ZS), self21 z0 z1 z2 z3 S = some o → EqT S o.2) (hf : f_X6_holds_21s self21 x0 x1 x2 x3 S = some o)   : EqT S o.2 := by
  have h_S : EqT S S := eqt_0
  unfold f_X6_holds_21s at hf
  obtain ⟨-, hf⟩ := m_chkE hf
  obtain ⟨o1, ho, hf⟩ := m_calE hf
  have h_o1 := eqt_t h_S (fq_J0_length_8abf5 ho)
  clear ho
  rcases m_ifE hf with ⟨-, hf⟩ | ⟨-, hf⟩
  ·
    obtain ⟨-, hf⟩ := m_chkE hf
    cases hf
    exact h_o1
  ·
    obtain ⟨q1, hf⟩ := m_chkE hf
    obtain ⟨b2, -, hf⟩ := m_calE hf
    obtain ⟨v3, e2, hf⟩ := m_bndE hf
    obtain ⟨q3, hf⟩ := m_chkE hf
    obtain ⟨-, hf⟩ := m_chkE hf
    obtain ⟨v4, e4, hf⟩ := m_bndE hf
    obtain ⟨-, hf⟩ := m_chkE hf
    obtain ⟨o5, ho, hf⟩ := m_calE hf
    have h_o5 := eqt_t h_o1 (fq_J0_charAt_5068e ho)
    clear ho
    rcases m_ifE hf with ⟨-, hf⟩ | ⟨-, hf⟩
    ·
      obtain ⟨v6, e5, hf⟩ := m_bndE hf
      exact eqt_t h_o5 (hself21 _ _ _ _ _ _ hf)
    ·
      obtain ⟨-, hf⟩ := m_chkE hf
      cases hf
      exact h_o5
theorem fq_X6_holds_21   (n : Nat) : ∀ (y0 : Nat) (y1 : Nat) (y2 : Int32) (y3 : Int32) (S : ZS) (o : Int32 × ZS), f_X6_holds_21  n y0 y1 y2 y3 S = some o → EqT S o.2 := by
  induction n with
  | zero => intro y0 y1 y2 y3 S o hf; cases hf
  | succ n ih => intro y0 y1 y2 y3 S o hf; exact fq_X6_holds_21s  ih hf
theorem fq_X6_holds_0 {o : Int32 × ZS} {x0 : Nat} {x1 : Nat} {x2 : Int32} {S : ZS}  (hf : f_X6_holds_0 x0 x1 x2 S = some o)   : EqT S o.2 := by
  have h_S : EqT S S := eqt_0
  unfold f_X6_holds_0 at hf
  rcases m_ifE hf with ⟨-, hf⟩ | ⟨-, hf⟩
  ·
    exact eqt_t h_S (fq_X6_holds_17  hf)
  ·
    obtain ⟨-, hf⟩ := m_chkE hf
    obtain ⟨o1, ho, hf⟩ := m_calE hf
    have h_o1 := eqt_t h_S (fq_J0_length_8abf5 ho)
    clear ho
    obtain ⟨v2, e1, hf⟩ := m_bndE hf
    obtain ⟨q2, hf⟩ := m_chkE hf
    rcases m_ifE hf with ⟨-, hf⟩ | ⟨-, hf⟩
    ·
      exact eqt_t h_o1 (fq_X6_holds_21  _ _ _ _ _ _ _ hf)
    ·
      exact eqt_t h_o1 (fq_X6_holds_17  hf)
theorem fq_X6_holds {o : Int32 × ZS} {x0 : Nat} {x1 : Nat} {x2 : Int32} {S : ZS}  (hf : f_X6_holds x0 x1 x2 S = some o)   : EqT S o.2 := by
  have h_S : EqT S S := eqt_0
  unfold f_X6_holds at hf
  exact eqt_t h_S (fq_X6_holds_0  hf)
theorem fq_X6_is_25 {o : Int32 × ZS} {t0 : Int32} {S : ZS}  (hf : f_X6_is_25 t0 S = some o)   : EqT S o.2 := by
  have h_S : EqT S S := eqt_0
  unfold f_X6_is_25 at hf
  obtain ⟨-, hf⟩ := m_chkE hf
  cases hf
  exact h_S
theorem fq_X6_is_24 {o : Int32 × ZS} {S : ZS}  (hf : f_X6_is_24 S = some o)   : EqT S o.2 := by
  have h_S : EqT S S := eqt_0
  unfold f_X6_is_24 at hf
  exact eqt_t h_S (fq_X6_is_25  hf)
theorem fq_X6_is_0 {o : Int32 × ZS} {x0 : Nat} {x1 : Nat} {S : ZS}  (hf : f_X6_is_0 x0 x1 S = some o)   : EqT S o.2 := by
  have h_S : EqT S S := eqt_0
  unfold f_X6_is_0 at hf
  obtain ⟨q1, hf⟩ := m_chkE hf
  obtain ⟨-, hf⟩ := m_chkE hf
  obtain ⟨o1, ho, hf⟩ := m_calE hf
  have h_o1 := eqt_t h_S (fq_J0_length_8abf5 ho)
  clear ho
  rcases m_ifE hf with ⟨-, hf⟩ | ⟨-, hf⟩
  ·
    obtain ⟨q2, hf⟩ := m_chkE hf
    obtain ⟨o2, ho, hf⟩ := m_calE hf
    have h_o2 := eqt_t h_o1 (fq_X6_holds ho)
    clear ho
    rcases m_ifE hf with ⟨-, hf⟩ | ⟨-, hf⟩
    ·
      exact eqt_t h_o2 (fq_X6_is_24  hf)
    ·
      exact eqt_t h_o2 (fq_X6_is_25  hf)
  ·
    exact eqt_t h_o1 (fq_X6_is_24  hf)
theorem fq_X6_is {o : Int32 × ZS} {x0 : Nat} {x1 : Nat} {S : ZS}  (hf : f_X6_is x0 x1 S = some o)   : EqT S o.2 := by
  have h_S : EqT S S := eqt_0
  unfold f_X6_is at hf
  exact eqt_t h_S (fq_X6_is_0  hf)
theorem fq_X11_resultSign_0 {o : Nat × ZS} {x0 : Int32} {S : ZS}  (hf : f_X11_resultSign_0 x0 S = some o)   : EqT S o.2 := by
  have h_S : EqT S S := eqt_0
  unfold f_X11_resultSign_0 at hf
  rcases m_ifE hf with ⟨-, hf⟩ | ⟨-, hf⟩
  ·
    cases hf
    exact h_S
  ·
    rcases m_ifE hf with ⟨-, hf⟩ | ⟨-, hf⟩
    ·
      cases hf
      exact h_S
    ·
      rcases m_ifE hf with ⟨-, hf⟩ | ⟨-, hf⟩
      ·
        cases hf
        exact h_S
      ·
        cases hf
        exact h_S
theorem fq_X11_resultSign {o : Nat × ZS} {x0 : Int32} {S : ZS}  (hf : f_X11_resultSign x0 S = some o)   : EqT S o.2 := by
  have h_S : EqT S S := eqt_0
  unfold f_X11_resultSign at hf
  exact eqt_t h_S (fq_X11_resultSign_0  hf)
theorem fq_X2_begin_0 {o : Int32 × ZS} {x0 : Nat} {x1 : Nat} {S : ZS}  (hf : f_X2_begin_0 x0 x1 S = some o)   : EqT S o.2 := by
  have h_S : EqT S S := eqt_0
  unfold f_X2_begin_0 at hf
  obtain ⟨q1, hf⟩ := m_chkE hf
  obtain ⟨S1, e2, hf⟩ := m_bndE hf
  have h_S1 := eqt_P h_S e2
  obtain ⟨q3, hf⟩ := m_chkE hf
  obtain ⟨b2, -, hf⟩ := m_calE hf
  obtain ⟨q4, hf⟩ := m_chkE hf
  obtain ⟨o3, ho, hf⟩ := m_calE hf
  have h_o3 := eqt_t h_S1 (fq_X1_wipe ho)
  clear ho
  obtain ⟨q5, hf⟩ := m_chkE hf
  obtain ⟨S4, e6, hf⟩ := m_bndE hf
  have h_S4 := eqt_I h_o3 e6
  obtain ⟨q7, hf⟩ := m_chkE hf
  obtain ⟨S5, e8, hf⟩ := m_bndE hf
  have h_S5 := eqt_I h_S4 e8
  cases hf
  exact h_S5
theorem fq_X2_begin {o : Int32 × ZS} {x0 : Nat} {x1 : Nat} {S : ZS}  (hf : f_X2_begin x0 x1 S = some o)   : EqT S o.2 := by
  have h_S : EqT S S := eqt_0
  unfold f_X2_begin at hf
  exact eqt_t h_S (fq_X2_begin_0  hf)
theorem fq_X2_fault_0 {o : Int32 × ZS} {x0 : Nat} {S : ZS}  (hf : f_X2_fault_0 x0 S = some o)   : EqT S o.2 := by
  have h_S : EqT S S := eqt_0
  unfold f_X2_fault_0 at hf
  obtain ⟨q1, hf⟩ := m_chkE hf
  cases hf
  exact h_S
theorem fq_X2_fault {o : Int32 × ZS} {x0 : Nat} {S : ZS}  (hf : f_X2_fault x0 S = some o)   : EqT S o.2 := by
  have h_S : EqT S S := eqt_0
  unfold f_X2_fault at hf
  exact eqt_t h_S (fq_X2_fault_0  hf)
theorem fq_X2_exchange_0 {o : Nat × ZS} {x0 : Nat} {x1 : Nat} {S : ZS}  (hf : f_X2_exchange_0 x0 x1 S = some o)   : EqT S o.2 := by
  have h_S : EqT S S := eqt_0
  unfold f_X2_exchange_0 at hf
  obtain ⟨q1, hf⟩ := m_chkE hf
  obtain ⟨b1, -, hf⟩ := m_calE hf
  obtain ⟨q2, hf⟩ := m_chkE hf
  obtain ⟨S2, e3, hf⟩ := m_bndE hf
  have h_S2 := eqt_P h_S e3
  cases hf
  exact h_S2
theorem fq_X2_exchange {o : Nat × ZS} {x0 : Nat} {x1 : Nat} {S : ZS}  (hf : f_X2_exchange x0 x1 S = some o)   : EqT S o.2 := by
  have h_S : EqT S S := eqt_0
  unfold f_X2_exchange at hf
  exact eqt_t h_S (fq_X2_exchange_0  hf)
theorem fq_X2_refuse_0 {o : Int32 × ZS} {x0 : Nat} {x1 : Int32} {x2 : Int32} {S : ZS}  (hf : f_X2_refuse_0 x0 x1 x2 S = some o)   : EqT S o.2 := by
  have h_S : EqT S S := eqt_0
  unfold f_X2_refuse_0 at hf
  obtain ⟨v1, e1, hf⟩ := m_bndE hf
  obtain ⟨v2, e2, hf⟩ := m_bndE hf
  obtain ⟨q3, hf⟩ := m_chkE hf
  obtain ⟨S3, e4, hf⟩ := m_bndE hf
  have h_S3 := eqt_I h_S e4
  obtain ⟨-, hf⟩ := m_chkE hf
  cases hf
  exact h_S3
theorem fq_X2_refuse {o : Int32 × ZS} {x0 : Nat} {x1 : Int32} {x2 : Int32} {S : ZS}  (hf : f_X2_refuse x0 x1 x2 S = some o)   : EqT S o.2 := by
  have h_S : EqT S S := eqt_0
  unfold f_X2_refuse at hf
  exact eqt_t h_S (fq_X2_refuse_0  hf)
theorem fq_X6_size_0 {o : Int32 × ZS} {x0 : Nat} {S : ZS}  (hf : f_X6_size_0 x0 S = some o)   : EqT S o.2 := by
  have h_S : EqT S S := eqt_0
  unfold f_X6_size_0 at hf
  obtain ⟨q1, hf⟩ := m_chkE hf
  cases hf
  exact h_S
theorem fq_X6_size {o : Int32 × ZS} {x0 : Nat} {S : ZS}  (hf : f_X6_size x0 S = some o)   : EqT S o.2 := by
  have h_S : EqT S S := eqt_0
  unfold f_X6_size at hf
  exact eqt_t h_S (fq_X6_size_0  hf)
theorem fq_X2_skipBlanks_59 {o : Int32 × ZS} {S : ZS}  (hf : f_X2_skipBlanks_59 S = some o)   : EqT S o.2 := by
  have h_S : EqT S S := eqt_0
  unfold f_X2_skipBlanks_59 at hf
  cases hf
  exact h_S
theorem fq_X2_skipBlanks_46 {o : Int32 × ZS} {self0 : Nat → ZS → Option (Int32 × ZS)} {x0 : Nat} {S : ZS} (hself0 : ∀ (z0 : Nat) (S : ZS) (o : Int32 × ZS), self0 z0 S = some o → EqT S o.2) (hf : f_X2_skipBlanks_46 self0 x0 S = some o)   : EqT S o.2 := by
  have h_S : EqT S S := eqt_0
  unfold f_X2_skipBlanks_46 at hf
  obtain ⟨q1, hf⟩ := m_chkE hf
  obtain ⟨v1, e2, hf⟩ := m_bndE hf
  obtain ⟨q3, hf⟩ := m_chkE hf
  obtain ⟨S2, e4, hf⟩ := m_bndE hf
  have h_S2 := eqt_I h_S e4
  exact eqt_t h_S2 (hself0 _ _ _ hf)
theorem fq_X2_skipBlanks_0s {o : Int32 × ZS} {self0 : Nat → ZS → Option (Int32 × ZS)} {x0 : Nat} {S : ZS} (hself0 : ∀ (z0 : Nat) (S : ZS) (o : Int32 × ZS), self0 z0 S = some o → EqT S o.2) (hf : f_X2_skipBlanks_0s self0 x0 S = some o)   : EqT S o.2 := by
  have h_S : EqT S S := eqt_0
  unfold f_X2_skipBlanks_0s at hf
  obtain ⟨q1, hf⟩ := m_chkE hf
  obtain ⟨q2, hf⟩ := m_chkE hf
  obtain ⟨b1, -, hf⟩ := m_calE hf
  obtain ⟨q3, hf⟩ := m_chkE hf
  obtain ⟨o2, ho, hf⟩ := m_calE hf
  have h_o2 := eqt_t h_S (fq_X6_size ho)
  clear ho
  rcases m_ifE hf with ⟨-, hf⟩ | ⟨-, hf⟩
  ·
    exact eqt_t h_o2 (fq_X2_skipBlanks_59  hf)
  ·
    obtain ⟨q4, hf⟩ := m_chkE hf
    obtain ⟨b3, -, hf⟩ := m_calE hf
    obtain ⟨q5, hf⟩ := m_chkE hf
    obtain ⟨q6, hf⟩ := m_chkE hf
    obtain ⟨o4, ho, hf⟩ := m_calE hf
    have h_o4 := eqt_t h_o2 (fq_X6_at ho)
    clear ho
    rcases m_ifE hf with ⟨-, hf⟩ | ⟨-, hf⟩
    ·
      exact eqt_t h_o4 (fq_X2_skipBlanks_46 hself0 hf)
    ·
      obtain ⟨q7, hf⟩ := m_chkE hf
      obtain ⟨b5, -, hf⟩ := m_calE hf
      obtain ⟨q8, hf⟩ := m_chkE hf
      obtain ⟨q9, hf⟩ := m_chkE hf
      obtain ⟨o6, ho, hf⟩ := m_calE hf
      have h_o6 := eqt_t h_o4 (fq_X6_at ho)
      clear ho
      rcases m_ifE hf with ⟨-, hf⟩ | ⟨-, hf⟩
      ·
        exact eqt_t h_o6 (fq_X2_skipBlanks_46 hself0 hf)
      ·
        exact eqt_t h_o6 (fq_X2_skipBlanks_59  hf)
theorem fq_X2_skipBlanks_0   (n : Nat) : ∀ (y0 : Nat) (S : ZS) (o : Int32 × ZS), f_X2_skipBlanks_0  n y0 S = some o → EqT S o.2 := by
  induction n with
  | zero => intro y0 S o hf; cases hf
  | succ n ih => intro y0 S o hf; exact fq_X2_skipBlanks_0s  ih hf
theorem fq_X2_skipBlanks {o : Int32 × ZS} {x0 : Nat} {S : ZS}  (hf : f_X2_skipBlanks x0 S = some o)   : EqT S o.2 := by
  have h_S : EqT S S := eqt_0
  unfold f_X2_skipBlanks at hf
  exact eqt_t h_S (fq_X2_skipBlanks_0  _ _ _ _ hf)
theorem fq_X11_isLetter_29 {o : Int32 × ZS} {t0 : Int32} {S : ZS}  (hf : f_X11_isLetter_29 t0 S = some o)   : EqT S o.2 := by
  have h_S : EqT S S := eqt_0
  unfold f_X11_isLetter_29 at hf
  obtain ⟨-, hf⟩ := m_chkE hf
  cases hf
  exact h_S
theorem fq_X11_isLetter_28 {o : Int32 × ZS} {S : ZS}  (hf : f_X11_isLetter_28 S = some o)   : EqT S o.2 := by
  have h_S : EqT S S := eqt_0
  unfold f_X11_isLetter_28 at hf
  exact eqt_t h_S (fq_X11_isLetter_29  hf)
theorem fq_X11_isLetter_24 {o : Int32 × ZS} {S : ZS}  (hf : f_X11_isLetter_24 S = some o)   : EqT S o.2 := by
  have h_S : EqT S S := eqt_0
  unfold f_X11_isLetter_24 at hf
  exact eqt_t h_S (fq_X11_isLetter_29  hf)
theorem fq_X11_isLetter_12 {o : Int32 × ZS} {x0 : Int32} {S : ZS}  (hf : f_X11_isLetter_12 x0 S = some o)   : EqT S o.2 := by
  have h_S : EqT S S := eqt_0
  unfold f_X11_isLetter_12 at hf
  rcases m_ifE hf with ⟨-, hf⟩ | ⟨-, hf⟩
  ·
    exact eqt_t h_S (fq_X11_isLetter_28  hf)
  ·
    rcases m_ifE hf with ⟨-, hf⟩ | ⟨-, hf⟩
    ·
      exact eqt_t h_S (fq_X11_isLetter_28  hf)
    ·
      exact eqt_t h_S (fq_X11_isLetter_24  hf)
theorem fq_X11_isLetter_0 {o : Int32 × ZS} {x0 : Int32} {S : ZS}  (hf : f_X11_isLetter_0 x0 S = some o)   : EqT S o.2 := by
  have h_S : EqT S S := eqt_0
  unfold f_X11_isLetter_0 at hf
  rcases m_ifE hf with ⟨-, hf⟩ | ⟨-, hf⟩
  ·
    exact eqt_t h_S (fq_X11_isLetter_12  hf)
  ·
    rcases m_ifE hf with ⟨-, hf⟩ | ⟨-, hf⟩
    ·
      exact eqt_t h_S (fq_X11_isLetter_24  hf)
    ·
      exact eqt_t h_S (fq_X11_isLetter_12  hf)
theorem fq_X11_isLetter {o : Int32 × ZS} {x0 : Int32} {S : ZS}  (hf : f_X11_isLetter x0 S = some o)   : EqT S o.2 := by
  have h_S : EqT S S := eqt_0
  unfold f_X11_isLetter at hf
  exact eqt_t h_S (fq_X11_isLetter_0  hf)
theorem fq_X11_isDigit_17 {o : Int32 × ZS} {t0 : Int32} {S : ZS}  (hf : f_X11_isDigit_17 t0 S = some o)   : EqT S o.2 := by
  have h_S : EqT S S := eqt_0
  unfold f_X11_isDigit_17 at hf
  obtain ⟨-, hf⟩ := m_chkE hf
  cases hf
  exact h_S
theorem fq_X11_isDigit_16 {o : Int32 × ZS} {S : ZS}  (hf : f_X11_isDigit_16 S = some o)   : EqT S o.2 := by
  have h_S : EqT S S := eqt_0
  unfold f_X11_isDigit_16 at hf
  exact eqt_t h_S (fq_X11_isDigit_17  hf)
theorem fq_X11_isDigit_0 {o : Int32 × ZS} {x0 : Int32} {S : ZS}  (hf : f_X11_isDigit_0 x0 S = some o)   : EqT S o.2 := by
  have h_S : EqT S S := eqt_0
  unfold f_X11_isDigit_0 at hf
  rcases m_ifE hf with ⟨-, hf⟩ | ⟨-, hf⟩
  ·
    exact eqt_t h_S (fq_X11_isDigit_16  hf)
  ·
    rcases m_ifE hf with ⟨-, hf⟩ | ⟨-, hf⟩
    ·
      exact eqt_t h_S (fq_X11_isDigit_16  hf)
    ·
      exact eqt_t h_S (fq_X11_isDigit_17  hf)
theorem fq_X11_isDigit {o : Int32 × ZS} {x0 : Int32} {S : ZS}  (hf : f_X11_isDigit x0 S = some o)   : EqT S o.2 := by
  have h_S : EqT S S := eqt_0
  unfold f_X11_isDigit at hf
  exact eqt_t h_S (fq_X11_isDigit_0  hf)
theorem fq_X5_skip_0 {o : Int32 × ZS} {x0 : Nat} {x1 : Int32} {S : ZS}  (hf : f_X5_skip_0 x0 x1 S = some o)   : EqT S o.2 := by
  have h_S : EqT S S := eqt_0
  unfold f_X5_skip_0 at hf
  obtain ⟨q1, hf⟩ := m_chkE hf
  obtain ⟨b1, -, hf⟩ := m_calE hf
  obtain ⟨q2, hf⟩ := m_chkE hf
  obtain ⟨q3, hf⟩ := m_chkE hf
  obtain ⟨o2, ho, hf⟩ := m_calE hf
  have h_o2 := eqt_t h_S (fq_X6_at ho)
  clear ho
  rcases m_ifE hf with ⟨-, hf⟩ | ⟨-, hf⟩
  ·
    obtain ⟨q4, hf⟩ := m_chkE hf
    obtain ⟨v3, e5, hf⟩ := m_bndE hf
    obtain ⟨q6, hf⟩ := m_chkE hf
    obtain ⟨S4, e7, hf⟩ := m_bndE hf
    have h_S4 := eqt_I h_o2 e7
    obtain ⟨-, hf⟩ := m_chkE hf
    cases hf
    exact h_S4
  ·
    obtain ⟨-, hf⟩ := m_chkE hf
    cases hf
    exact h_o2
theorem fq_X5_skip {o : Int32 × ZS} {x0 : Nat} {x1 : Int32} {S : ZS}  (hf : f_X5_skip x0 x1 S = some o)   : EqT S o.2 := by
  have h_S : EqT S S := eqt_0
  unfold f_X5_skip at hf
  exact eqt_t h_S (fq_X5_skip_0  hf)
theorem fq_X11_isRank_17 {o : Int32 × ZS} {t0 : Int32} {S : ZS}  (hf : f_X11_isRank_17 t0 S = some o)   : EqT S o.2 := by
  have h_S : EqT S S := eqt_0
  unfold f_X11_isRank_17 at hf
  obtain ⟨-, hf⟩ := m_chkE hf
  cases hf
  exact h_S
theorem fq_X11_isRank_16 {o : Int32 × ZS} {S : ZS}  (hf : f_X11_isRank_16 S = some o)   : EqT S o.2 := by
  have h_S : EqT S S := eqt_0
  unfold f_X11_isRank_16 at hf
  exact eqt_t h_S (fq_X11_isRank_17  hf)
theorem fq_X11_isRank_0 {o : Int32 × ZS} {x0 : Int32} {S : ZS}  (hf : f_X11_isRank_0 x0 S = some o)   : EqT S o.2 := by
  have h_S : EqT S S := eqt_0
  unfold f_X11_isRank_0 at hf
  rcases m_ifE hf with ⟨-, hf⟩ | ⟨-, hf⟩
  ·
    exact eqt_t h_S (fq_X11_isRank_16  hf)
  ·
    rcases m_ifE hf with ⟨-, hf⟩ | ⟨-, hf⟩
    ·
      exact eqt_t h_S (fq_X11_isRank_16  hf)
    ·
      exact eqt_t h_S (fq_X11_isRank_17  hf)
theorem fq_X11_isRank {o : Int32 × ZS} {x0 : Int32} {S : ZS}  (hf : f_X11_isRank x0 S = some o)   : EqT S o.2 := by
  have h_S : EqT S S := eqt_0
  unfold f_X11_isRank at hf
  exact eqt_t h_S (fq_X11_isRank_0  hf)
theorem fq_J1_canEncode_9a6ad_16 {o : Int32 × ZS} {t0 : Int32} {S : ZS}  (hf : f_J1_canEncode_9a6ad_16 t0 S = some o)   : EqT S o.2 := by
  have h_S : EqT S S := eqt_0
  unfold f_J1_canEncode_9a6ad_16 at hf
  obtain ⟨-, hf⟩ := m_chkE hf
  cases hf
  exact h_S
theorem fq_J1_canEncode_9a6ad_15 {o : Int32 × ZS} {S : ZS}  (hf : f_J1_canEncode_9a6ad_15 S = some o)   : EqT S o.2 := by
  have h_S : EqT S S := eqt_0
  unfold f_J1_canEncode_9a6ad_15 at hf
  exact eqt_t h_S (fq_J1_canEncode_9a6ad_16  hf)
theorem fq_J1_canEncode_9a6ad_0 {o : Int32 × ZS} {x0 : Int32} {S : ZS}  (hf : f_J1_canEncode_9a6ad_0 x0 S = some o)   : EqT S o.2 := by
  have h_S : EqT S S := eqt_0
  unfold f_J1_canEncode_9a6ad_0 at hf
  rcases m_ifE hf with ⟨-, hf⟩ | ⟨-, hf⟩
  ·
    exact eqt_t h_S (fq_J1_canEncode_9a6ad_15  hf)
  ·
    rcases m_ifE hf with ⟨-, hf⟩ | ⟨-, hf⟩
    ·
      exact eqt_t h_S (fq_J1_canEncode_9a6ad_15  hf)
    ·
      exact eqt_t h_S (fq_J1_canEncode_9a6ad_16  hf)
theorem fq_J1_canEncode_9a6ad {o : Int32 × ZS} {x0 : Int32} {S : ZS}  (hf : f_J1_canEncode_9a6ad x0 S = some o)   : EqT S o.2 := by
  have h_S : EqT S S := eqt_0
  unfold f_J1_canEncode_9a6ad at hf
  exact eqt_t h_S (fq_J1_canEncode_9a6ad_0  hf)
theorem fq_J1_indexOfChar_4cfef_7s {o : Int32 × ZS} {self7 : Nat → Int32 → Int32 → Int32 → ZS → Option (Int32 × ZS)} {x0 : Nat} {x3 : Int32} {x4 : Int32} {x5 : Int32} {S : ZS} (hself7 : ∀ (z0 : Nat) (z1 : Int32) (z2 : Int32) (z3 : Int32) (S : ZS) (o : Int32 × ZS), self7 z0 z1 z2 z3 S = some o → EqT S o.2) (hf : f_J1_indexOfChar_4cfef_7s self7 x0 x3 x4 x5 S = some o)   : EqT S o.2 := by
  have h_S : EqT S S := eqt_0
  unfold f_J1_indexOfChar_4cfef_7s at hf
  rcases m_ifE hf with ⟨-, hf⟩ | ⟨-, hf⟩
  ·
    cases hf
    exact h_S
  ·
    obtain ⟨-, hf⟩ := m_chkE hf
    obtain ⟨-, hf⟩ := m_chkE hf
    obtain ⟨v1, e1, hf⟩ := m_bndE hf
    rcases m_ifE hf with ⟨-, hf⟩ | ⟨-, hf⟩
    ·
      cases hf
      exact h_S
    ·
      obtain ⟨v2, e2, hf⟩ := m_bndE hf
      exact eqt_t h_S (hself7 _ _ _ _ _ _ hf)
theorem fq_J1_indexOfChar_4cfef_7   (n : Nat) : ∀ (y0 : Nat) (y1 : Int32) (y2 : Int32) (y3 : Int32) (S : ZS) (o : Int32 × ZS), f_J1_indexOfChar_4cfef_7  n y0 y1 y2 y3 S = some o → EqT S o.2 := by
  induction n with
  | zero => intro y0 y1 y2 y3 S o hf; cases hf
  | succ n ih => intro y0 y1 y2 y3 S o hf; exact fq_J1_indexOfChar_4cfef_7s  ih hf
theorem fq_J1_indexOfChar_4cfef_0 {o : Int32 × ZS} {x0 : Nat} {x1 : Int32} {x2 : Int32} {x3 : Int32} {S : ZS}  (hf : f_J1_indexOfChar_4cfef_0 x0 x1 x2 x3 S = some o)   : EqT S o.2 := by
  have h_S : EqT S S := eqt_0
  unfold f_J1_indexOfChar_4cfef_0 at hf
  obtain ⟨v1, e1, hf⟩ := m_bndE hf
  exact eqt_t h_S (fq_J1_indexOfChar_4cfef_7  _ _ _ _ _ _ _ hf)
theorem fq_J1_indexOfChar_4cfef {o : Int32 × ZS} {x0 : Nat} {x1 : Int32} {x2 : Int32} {x3 : Int32} {S : ZS}  (hf : f_J1_indexOfChar_4cfef x0 x1 x2 x3 S = some o)   : EqT S o.2 := by
  have h_S : EqT S S := eqt_0
  unfold f_J1_indexOfChar_4cfef at hf
  exact eqt_t h_S (fq_J1_indexOfChar_4cfef_0  hf)
theorem fq_J1_indexOf_4cfef_0 {o : Int32 × ZS} {x0 : Nat} {x1 : Int32} {x2 : Int32} {x3 : Int32} {S : ZS}  (hf : f_J1_indexOf_4cfef_0 x0 x1 x2 x3 S = some o)   : EqT S o.2 := by
  have h_S : EqT S S := eqt_0
  unfold f_J1_indexOf_4cfef_0 at hf
  obtain ⟨o1, ho, hf⟩ := m_calE hf
  have h_o1 := eqt_t h_S (fq_J1_canEncode_9a6ad ho)
  clear ho
  rcases m_ifE hf with ⟨-, hf⟩ | ⟨-, hf⟩
  ·
    cases hf
    exact h_o1
  ·
    obtain ⟨v2, e1, hf⟩ := m_bndE hf
    obtain ⟨-, hf⟩ := m_chkE hf
    obtain ⟨v3, e2, hf⟩ := m_bndE hf
    obtain ⟨v4, e3, hf⟩ := m_bndE hf
    rcases m_ifE hf with ⟨-, hf⟩ | ⟨-, hf⟩
    ·
      obtain ⟨o5, ho, hf⟩ := m_calE hf
      have h_o5 := eqt_t h_o1 (fq_J1_indexOfChar_4cfef ho)
      clear ho
      cases hf
      exact h_o5
    ·
      cases hf
      exact h_o1
theorem fq_J1_indexOf_4cfef {o : Int32 × ZS} {x0 : Nat} {x1 : Int32} {x2 : Int32} {x3 : Int32} {S : ZS}  (hf : f_J1_indexOf_4cfef x0 x1 x2 x3 S = some o)   : EqT S o.2 := by
  have h_S : EqT S S := eqt_0
  unfold f_J1_indexOf_4cfef at hf
  exact eqt_t h_S (fq_J1_indexOf_4cfef_0  hf)
theorem fq_J0_indexOf_7cf53_0 {o : Int32 × ZS} {x0 : Nat} {x1 : Int32} {x2 : Int32} {S : ZS}  (hf : f_J0_indexOf_7cf53_0 x0 x1 x2 S = some o)   : EqT S o.2 := by
  have h_S : EqT S S := eqt_0
  unfold f_J0_indexOf_7cf53_0 at hf
  obtain ⟨-, hf⟩ := m_chkE hf
  obtain ⟨o1, ho, hf⟩ := m_calE hf
  have h_o1 := eqt_t h_S (fq_J0_isLatin1_aae02 ho)
  clear ho
  rcases m_ifE hf with ⟨-, hf⟩ | ⟨-, hf⟩
  ·
    cases hf
  ·
    obtain ⟨-, hf⟩ := m_chkE hf
    obtain ⟨-, hf⟩ := m_chkE hf
    obtain ⟨o2, ho, hf⟩ := m_calE hf
    have h_o2 := eqt_t h_o1 (fq_J0_length_8abf5 ho)
    clear ho
    obtain ⟨o3, ho, hf⟩ := m_calE hf
    have h_o3 := eqt_t h_o2 (fq_J1_indexOf_4cfef ho)
    clear ho
    cases hf
    exact h_o3
theorem fq_J0_indexOf_7cf53 {o : Int32 × ZS} {x0 : Nat} {x1 : Int32} {x2 : Int32} {S : ZS}  (hf : f_J0_indexOf_7cf53 x0 x1 x2 S = some o)   : EqT S o.2 := by
  have h_S : EqT S S := eqt_0
  unfold f_J0_indexOf_7cf53 at hf
  exact eqt_t h_S (fq_J0_indexOf_7cf53_0  hf)
theorem fq_J0_indexOf_0f7a4_0 {o : Int32 × ZS} {x0 : Nat} {x1 : Int32} {S : ZS}  (hf : f_J0_indexOf_0f7a4_0 x0 x1 S = some o)   : EqT S o.2 := by
  have h_S : EqT S S := eqt_0
  unfold f_J0_indexOf_0f7a4_0 at hf
  obtain ⟨-, hf⟩ := m_chkE hf
  obtain ⟨o1, ho, hf⟩ := m_calE hf
  have h_o1 := eqt_t h_S (fq_J0_indexOf_7cf53 ho)
  clear ho
  cases hf
  exact h_o1
theorem fq_J0_indexOf_0f7a4 {o : Int32 × ZS} {x0 : Nat} {x1 : Int32} {S : ZS}  (hf : f_J0_indexOf_0f7a4 x0 x1 S = some o)   : EqT S o.2 := by
  have h_S : EqT S S := eqt_0
  unfold f_J0_indexOf_0f7a4 at hf
  exact eqt_t h_S (fq_J0_indexOf_0f7a4_0  hf)
theorem fq_X5_readRank_136 {o : Int32 × ZS} {t0 : Int32} {S : ZS}  (hf : f_X5_readRank_136 t0 S = some o)   : EqT S o.2 := by
  have h_S : EqT S S := eqt_0
  unfold f_X5_readRank_136 at hf
  obtain ⟨-, hf⟩ := m_chkE hf
  cases hf
  exact h_S
theorem fq_X5_readRank_105 {o : Int32 × ZS} {self5 : Nat → Nat → Int32 → Int32 → Int32 → ZS → Option (Int32 × ZS)} {x0 : Nat} {x1 : Nat} {x2 : Int32} {x6 : Int32} {t0 : Int32} {t1 : Int32} {S : ZS} (hself5 : ∀ (z0 : Nat) (z1 : Nat) (z2 : Int32) (z3 : Int32) (z4 : Int32) (S : ZS) (o : Int32 × ZS), self5 z0 z1 z2 z3 z4 S = some o → EqT S o.2) (hf : f_X5_readRank_105 self5 x0 x1 x2 x6 t0 t1 S = some o)   : EqT S o.2 := by
  have h_S : EqT S S := eqt_0
  unfold f_X5_readRank_105 at hf
  obtain ⟨v1, e1, hf⟩ := m_bndE hf
  obtain ⟨q2, hf⟩ := m_chkE hf
  obtain ⟨v2, e3, hf⟩ := m_bndE hf
  obtain ⟨q4, hf⟩ := m_chkE hf
  obtain ⟨S3, e5, hf⟩ := m_bndE hf
  have h_S3 := eqt_I h_S e5
  exact eqt_t h_S3 (hself5 _ _ _ _ _ _ _ hf)
theorem fq_X5_readRank_89 {o : Int32 × ZS} {self5 : Nat → Nat → Int32 → Int32 → Int32 → ZS → Option (Int32 × ZS)} {x0 : Nat} {x1 : Nat} {x2 : Int32} {x4 : Int32} {x5 : Int32} {x6 : Int32} {S : ZS} (hself5 : ∀ (z0 : Nat) (z1 : Nat) (z2 : Int32) (z3 : Int32) (z4 : Int32) (S : ZS) (o : Int32 × ZS), self5 z0 z1 z2 z3 z4 S = some o → EqT S o.2) (hf : f_X5_readRank_89 self5 x0 x1 x2 x4 x5 x6 S = some o)   : EqT S o.2 := by
  have h_S : EqT S S := eqt_0
  unfold f_X5_readRank_89 at hf
  rcases m_ifE hf with ⟨-, hf⟩ | ⟨-, hf⟩
  ·
    exact eqt_t h_S (fq_X5_readRank_105 hself5 hf)
  ·
    obtain ⟨v1, e1, hf⟩ := m_bndE hf
    exact eqt_t h_S (fq_X5_readRank_105 hself5 hf)
theorem fq_X5_readRank_74 {o : Int32 × ZS} {self5 : Nat → Nat → Int32 → Int32 → Int32 → ZS → Option (Int32 × ZS)} {x0 : Nat} {x1 : Nat} {x2 : Int32} {x4 : Int32} {x5 : Int32} {x6 : Int32} {x7 : Int32} {S : ZS} (hself5 : ∀ (z0 : Nat) (z1 : Nat) (z2 : Int32) (z3 : Int32) (z4 : Int32) (S : ZS) (o : Int32 × ZS), self5 z0 z1 z2 z3 z4 S = some o → EqT S o.2) (hf : f_X5_readRank_74 self5 x0 x1 x2 x4 x5 x6 x7 S = some o)   : EqT S o.2 := by
  have h_S : EqT S S := eqt_0
  unfold f_X5_readRank_74 at hf
  rcases m_ifE hf with ⟨-, hf⟩ | ⟨-, hf⟩
  ·
    obtain ⟨v1, e1, hf⟩ := m_bndE hf
    obtain ⟨q2, hf⟩ := m_chkE hf
    obtain ⟨o2, ho, hf⟩ := m_calE hf
    have h_o2 := eqt_t h_S (fq_X0_put ho)
    clear ho
    exact eqt_t h_o2 (fq_X5_readRank_89 hself5 hf)
  ·
    exact eqt_t h_S (fq_X5_readRank_89 hself5 hf)
theorem fq_X5_readRank_72 {o : Int32 × ZS} {S : ZS}  (hf : f_X5_readRank_72 S = some o)   : EqT S o.2 := by
  have h_S : EqT S S := eqt_0
  unfold f_X5_readRank_72 at hf
  obtain ⟨-, hf⟩ := m_chkE hf
  cases hf
  exact h_S
theorem fq_X5_readRank_53 {o : Int32 × ZS} {self5 : Nat → Nat → Int32 → Int32 → Int32 → ZS → Option (Int32 × ZS)} {x0 : Nat} {x1 : Nat} {x2 : Int32} {x3 : Int32} {x4 : Int32} {x5 : Int32} {x6 : Int32} {t0 : Int32} {S : ZS} (hself5 : ∀ (z0 : Nat) (z1 : Nat) (z2 : Int32) (z3 : Int32) (z4 : Int32) (S : ZS) (o : Int32 × ZS), self5 z0 z1 z2 z3 z4 S = some o → EqT S o.2) (hf : f_X5_readRank_53 self5 x0 x1 x2 x3 x4 x5 x6 t0 S = some o)   : EqT S o.2 := by
  have h_S : EqT S S := eqt_0
  unfold f_X5_readRank_53 at hf
  rcases m_ifE hf with ⟨-, hf⟩ | ⟨-, hf⟩
  ·
    rcases m_ifE hf with ⟨-, hf⟩ | ⟨-, hf⟩
    ·
      exact eqt_t h_S (fq_X5_readRank_72  hf)
    ·
      exact eqt_t h_S (fq_X5_readRank_74 hself5 hf)
  ·
    rcases m_ifE hf with ⟨-, hf⟩ | ⟨-, hf⟩
    ·
      exact eqt_t h_S (fq_X5_readRank_74 hself5 hf)
    ·
      exact eqt_t h_S (fq_X5_readRank_72  hf)
theorem fq_X5_readRank_5s {o : Int32 × ZS} {self5 : Nat → Nat → Int32 → Int32 → Int32 → ZS → Option (Int32 × ZS)} {x0 : Nat} {x1 : Nat} {x2 : Int32} {x3 : Int32} {x4 : Int32} {S : ZS} (hself5 : ∀ (z0 : Nat) (z1 : Nat) (z2 : Int32) (z3 : Int32) (z4 : Int32) (S : ZS) (o : Int32 × ZS), self5 z0 z1 z2 z3 z4 S = some o → EqT S o.2) (hf : f_X5_readRank_5s self5 x0 x1 x2 x3 x4 S = some o)   : EqT S o.2 := by
  have h_S : EqT S S := eqt_0
  unfold f_X5_readRank_5s at hf
  rcases m_ifE hf with ⟨-, hf⟩ | ⟨-, hf⟩
  ·
    rcases m_ifE hf with ⟨-, hf⟩ | ⟨-, hf⟩
    ·
      exact eqt_t h_S (fq_X5_readRank_136  hf)
    ·
      exact eqt_t h_S (fq_X5_readRank_136  hf)
  ·
    obtain ⟨q1, hf⟩ := m_chkE hf
    obtain ⟨b1, -, hf⟩ := m_calE hf
    obtain ⟨q2, hf⟩ := m_chkE hf
    obtain ⟨q3, hf⟩ := m_chkE hf
    obtain ⟨o2, ho, hf⟩ := m_calE hf
    have h_o2 := eqt_t h_S (fq_X6_at ho)
    clear ho
    obtain ⟨o3, ho, hf⟩ := m_calE hf
    have h_o3 := eqt_t h_o2 (fq_X11_isRank ho)
    clear ho
    obtain ⟨o4, ho, hf⟩ := m_calE hf
    have h_o4 := eqt_t h_o3 (fq_X11_isLetter ho)
    clear ho
    rcases m_ifE hf with ⟨-, hf⟩ | ⟨-, hf⟩
    ·
      exact eqt_t h_o4 (fq_X5_readRank_53 hself5 hf)
    ·
      obtain ⟨-, hf⟩ := m_chkE hf
      obtain ⟨o5, ho, hf⟩ := m_calE hf
      have h_o5 := eqt_t h_o4 (fq_J0_indexOf_0f7a4 ho)
      clear ho
      obtain ⟨v6, e4, hf⟩ := m_bndE hf
      exact eqt_t h_o5 (fq_X5_readRank_53 hself5 hf)
theorem fq_X5_readRank_5   (n : Nat) : ∀ (y0 : Nat) (y1 : Nat) (y2 : Int32) (y3 : Int32) (y4 : Int32) (S : ZS) (o : Int32 × ZS), f_X5_readRank_5  n y0 y1 y2 y3 y4 S = some o → EqT S o.2 := by
  induction n with
  | zero => intro y0 y1 y2 y3 y4 S o hf; cases hf
  | succ n ih => intro y0 y1 y2 y3 y4 S o hf; exact fq_X5_readRank_5s  ih hf
theorem fq_X5_readRank_0 {o : Int32 × ZS} {x0 : Nat} {x1 : Nat} {x2 : Int32} {S : ZS}  (hf : f_X5_readRank_0 x0 x1 x2 S = some o)   : EqT S o.2 := by
  have h_S : EqT S S := eqt_0
  unfold f_X5_readRank_0 at hf
  exact eqt_t h_S (fq_X5_readRank_5  _ _ _ _ _ _ _ _ hf)
theorem fq_X5_readRank {o : Int32 × ZS} {x0 : Nat} {x1 : Nat} {x2 : Int32} {S : ZS}  (hf : f_X5_readRank x0 x1 x2 S = some o)   : EqT S o.2 := by
  have h_S : EqT S S := eqt_0
  unfold f_X5_readRank at hf
  exact eqt_t h_S (fq_X5_readRank_0  hf)
theorem fq_X5_readMen_34 {o : Int32 × ZS} {S : ZS}  (hf : f_X5_readMen_34 S = some o)   : EqT S o.2 := by
  have h_S : EqT S S := eqt_0
  unfold f_X5_readMen_34 at hf
  obtain ⟨-, hf⟩ := m_chkE hf
  cases hf
  exact h_S
theorem fq_X5_readMen_22 {o : Int32 × ZS} {self3 : Nat → Nat → Int32 → ZS → Option (Int32 × ZS)} {x0 : Nat} {x1 : Nat} {x2 : Int32} {S : ZS} (hself3 : ∀ (z0 : Nat) (z1 : Nat) (z2 : Int32) (S : ZS) (o : Int32 × ZS), self3 z0 z1 z2 S = some o → EqT S o.2) (hf : f_X5_readMen_22 self3 x0 x1 x2 S = some o)   : EqT S o.2 := by
  have h_S : EqT S S := eqt_0
  unfold f_X5_readMen_22 at hf
  obtain ⟨v1, e1, hf⟩ := m_bndE hf
  obtain ⟨q2, hf⟩ := m_chkE hf
  obtain ⟨o2, ho, hf⟩ := m_calE hf
  have h_o2 := eqt_t h_S (fq_X5_readRank ho)
  clear ho
  rcases m_ifE hf with ⟨-, hf⟩ | ⟨-, hf⟩
  ·
    exact eqt_t h_o2 (fq_X5_readMen_34  hf)
  ·
    obtain ⟨v3, e3, hf⟩ := m_bndE hf
    exact eqt_t h_o2 (hself3 _ _ _ _ _ hf)
theorem fq_X5_readMen_3s {o : Int32 × ZS} {self3 : Nat → Nat → Int32 → ZS → Option (Int32 × ZS)} {x0 : Nat} {x1 : Nat} {x2 : Int32} {S : ZS} (hself3 : ∀ (z0 : Nat) (z1 : Nat) (z2 : Int32) (S : ZS) (o : Int32 × ZS), self3 z0 z1 z2 S = some o → EqT S o.2) (hf : f_X5_readMen_3s self3 x0 x1 x2 S = some o)   : EqT S o.2 := by
  have h_S : EqT S S := eqt_0
  unfold f_X5_readMen_3s at hf
  rcases m_ifE hf with ⟨-, hf⟩ | ⟨-, hf⟩
  ·
    obtain ⟨-, hf⟩ := m_chkE hf
    cases hf
    exact h_S
  ·
    rcases m_ifE hf with ⟨-, hf⟩ | ⟨-, hf⟩
    ·
      exact eqt_t h_S (fq_X5_readMen_22 hself3 hf)
    ·
      obtain ⟨q1, hf⟩ := m_chkE hf
      obtain ⟨o1, ho, hf⟩ := m_calE hf
      have h_o1 := eqt_t h_S (fq_X5_skip ho)
      clear ho
      rcases m_ifE hf with ⟨-, hf⟩ | ⟨-, hf⟩
      ·
        exact eqt_t h_o1 (fq_X5_readMen_34  hf)
      ·
        exact eqt_t h_o1 (fq_X5_readMen_22 hself3 hf)
theorem fq_X5_readMen_3   (n : Nat) : ∀ (y0 : Nat) (y1 : Nat) (y2 : Int32) (S : ZS) (o : Int32 × ZS), f_X5_readMen_3  n y0 y1 y2 S = some o → EqT S o.2 := by
  induction n with
  | zero => intro y0 y1 y2 S o hf; cases hf
  | succ n ih => intro y0 y1 y2 S o hf; exact fq_X5_readMen_3s  ih hf
theorem fq_X5_readMen_0 {o : Int32 × ZS} {x0 : Nat} {x1 : Nat} {S : ZS}  (hf : f_X5_readMen_0 x0 x1 S = some o)   : EqT S o.2 := by
  have h_S : EqT S S := eqt_0
  unfold f_X5_readMen_0 at hf
  exact eqt_t h_S (fq_X5_readMen_3  _ _ _ _ _ _ hf)
theorem fq_X5_readMen {o : Int32 × ZS} {x0 : Nat} {x1 : Nat} {S : ZS}  (hf : f_X5_readMen x0 x1 S = some o)   : EqT S o.2 := by
  have h_S : EqT S S := eqt_0
  unfold f_X5_readMen at hf
  exact eqt_t h_S (fq_X5_readMen_0  hf)
theorem fq_X5_readSide_48 {o : Int32 × ZS} {t0 : Int32} {S : ZS}  (hf : f_X5_readSide_48 t0 S = some o)   : EqT S o.2 := by
  have h_S : EqT S S := eqt_0
  unfold f_X5_readSide_48 at hf
  obtain ⟨-, hf⟩ := m_chkE hf
  cases hf
  exact h_S
theorem fq_X5_readSide_43 {o : Int32 × ZS} {S : ZS}  (hf : f_X5_readSide_43 S = some o)   : EqT S o.2 := by
  have h_S : EqT S S := eqt_0
  unfold f_X5_readSide_43 at hf
  exact eqt_t h_S (fq_X5_readSide_48  hf)
theorem fq_X5_readSide_22 {o : Int32 × ZS} {x0 : Nat} {t0 : Int32} {t1 : Nat} {S : ZS}  (hf : f_X5_readSide_22 x0 t0 t1 S = some o)   : EqT S o.2 := by
  have h_S : EqT S S := eqt_0
  unfold f_X5_readSide_22 at hf
  obtain ⟨q1, hf⟩ := m_chkE hf
  obtain ⟨S1, e2, hf⟩ := m_bndE hf
  have h_S1 := eqt_I h_S e2
  obtain ⟨q3, hf⟩ := m_chkE hf
  obtain ⟨o2, ho, hf⟩ := m_calE hf
  have h_o2 := eqt_t h_S1 (fq_X5_skip ho)
  clear ho
  rcases m_ifE hf with ⟨-, hf⟩ | ⟨-, hf⟩
  ·
    obtain ⟨q4, hf⟩ := m_chkE hf
    obtain ⟨o3, ho, hf⟩ := m_calE hf
    have h_o3 := eqt_t h_o2 (fq_X5_skip ho)
    clear ho
    rcases m_ifE hf with ⟨-, hf⟩ | ⟨-, hf⟩
    ·
      exact eqt_t h_o3 (fq_X5_readSide_48  hf)
    ·
      exact eqt_t h_o3 (fq_X5_readSide_43  hf)
  ·
    exact eqt_t h_o2 (fq_X5_readSide_43  hf)
theorem fq_X5_readSide_0 {o : Int32 × ZS} {x0 : Nat} {x1 : Nat} {S : ZS}  (hf : f_X5_readSide_0 x0 x1 S = some o)   : EqT S o.2 := by
  have h_S : EqT S S := eqt_0
  unfold f_X5_readSide_0 at hf
  obtain ⟨q1, hf⟩ := m_chkE hf
  obtain ⟨b1, -, hf⟩ := m_calE hf
  obtain ⟨q2, hf⟩ := m_chkE hf
  obtain ⟨q3, hf⟩ := m_chkE hf
  obtain ⟨o2, ho, hf⟩ := m_calE hf
  have h_o2 := eqt_t h_S (fq_X6_at ho)
  clear ho
  rcases m_ifE hf with ⟨-, hf⟩ | ⟨-, hf⟩
  ·
    exact eqt_t h_o2 (fq_X5_readSide_22  hf)
  ·
    exact eqt_t h_o2 (fq_X5_readSide_22  hf)
theorem fq_X5_readSide {o : Int32 × ZS} {x0 : Nat} {x1 : Nat} {S : ZS}  (hf : f_X5_readSide x0 x1 S = some o)   : EqT S o.2 := by
  have h_S : EqT S S := eqt_0
  unfold f_X5_readSide at hf
  exact eqt_t h_S (fq_X5_readSide_0  hf)
theorem fq_X5_readRights_65 {o : Int32 × ZS} {t0 : Int32} {S : ZS}  (hf : f_X5_readRights_65 t0 S = some o)   : EqT S o.2 := by
  have h_S : EqT S S := eqt_0
  unfold f_X5_readRights_65 at hf
  obtain ⟨-, hf⟩ := m_chkE hf
  cases hf
  exact h_S
theorem fq_X5_readRights_47 {o : Int32 × ZS} {self13 : Nat → Nat → Int32 → ZS → Option (Int32 × ZS)} {x0 : Nat} {x1 : Nat} {x2 : Int32} {S : ZS} (hself13 : ∀ (z0 : Nat) (z1 : Nat) (z2 : Int32) (S : ZS) (o : Int32 × ZS), self13 z0 z1 z2 S = some o → EqT S o.2) (hf : f_X5_readRights_47 self13 x0 x1 x2 S = some o)   : EqT S o.2 := by
  have h_S : EqT S S := eqt_0
  unfold f_X5_readRights_47 at hf
  obtain ⟨v1, e1, hf⟩ := m_bndE hf
  exact eqt_t h_S (hself13 _ _ _ _ _ hf)
theorem fq_X5_readRights_13s {o : Int32 × ZS} {self13 : Nat → Nat → Int32 → ZS → Option (Int32 × ZS)} {x0 : Nat} {x1 : Nat} {x2 : Int32} {S : ZS} (hself13 : ∀ (z0 : Nat) (z1 : Nat) (z2 : Int32) (S : ZS) (o : Int32 × ZS), self13 z0 z1 z2 S = some o → EqT S o.2) (hf : f_X5_readRights_13s self13 x0 x1 x2 S = some o)   : EqT S o.2 := by
  have h_S : EqT S S := eqt_0
  unfold f_X5_readRights_13s at hf
  obtain ⟨-, hf⟩ := m_chkE hf
  obtain ⟨o1, ho, hf⟩ := m_calE hf
  have h_o1 := eqt_t h_S (fq_J0_length_8abf5 ho)
  clear ho
  rcases m_ifE hf with ⟨-, hf⟩ | ⟨-, hf⟩
  ·
    obtain ⟨q1, hf⟩ := m_chkE hf
    rcases m_ifE hf with ⟨-, hf⟩ | ⟨-, hf⟩
    ·
      exact eqt_t h_o1 (fq_X5_readRights_65  hf)
    ·
      exact eqt_t h_o1 (fq_X5_readRights_65  hf)
  ·
    obtain ⟨-, hf⟩ := m_chkE hf
    obtain ⟨o2, ho, hf⟩ := m_calE hf
    have h_o2 := eqt_t h_o1 (fq_J0_charAt_5068e ho)
    clear ho
    obtain ⟨q2, hf⟩ := m_chkE hf
    obtain ⟨o3, ho, hf⟩ := m_calE hf
    have h_o3 := eqt_t h_o2 (fq_X5_skip ho)
    clear ho
    rcases m_ifE hf with ⟨-, hf⟩ | ⟨-, hf⟩
    ·
      exact eqt_t h_o3 (fq_X5_readRights_47 hself13 hf)
    ·
      obtain ⟨q3, hf⟩ := m_chkE hf
      obtain ⟨v4, e4, hf⟩ := m_bndE hf
      obtain ⟨v5, e5, hf⟩ := m_bndE hf
      obtain ⟨q6, hf⟩ := m_chkE hf
      obtain ⟨S6, e7, hf⟩ := m_bndE hf
      have h_S6 := eqt_I h_o3 e7
      exact eqt_t h_S6 (fq_X5_readRights_47 hself13 hf)
theorem fq_X5_readRights_13   (n : Nat) : ∀ (y0 : Nat) (y1 : Nat) (y2 : Int32) (S : ZS) (o : Int32 × ZS), f_X5_readRights_13  n y0 y1 y2 S = some o → EqT S o.2 := by
  induction n with
  | zero => intro y0 y1 y2 S o hf; cases hf
  | succ n ih => intro y0 y1 y2 S o hf; exact fq_X5_readRights_13s  ih hf
theorem fq_X5_readRights_0 {o : Int32 × ZS} {x0 : Nat} {x1 : Nat} {S : ZS}  (hf : f_X5_readRights_0 x0 x1 S = some o)   : EqT S o.2 := by
  have h_S : EqT S S := eqt_0
  unfold f_X5_readRights_0 at hf
  obtain ⟨q1, hf⟩ := m_chkE hf
  obtain ⟨o1, ho, hf⟩ := m_calE hf
  have h_o1 := eqt_t h_S (fq_X5_skip ho)
  clear ho
  rcases m_ifE hf with ⟨-, hf⟩ | ⟨-, hf⟩
  ·
    exact eqt_t h_o1 (fq_X5_readRights_13  _ _ _ _ _ _ hf)
  ·
    obtain ⟨-, hf⟩ := m_chkE hf
    cases hf
    exact h_o1
theorem fq_X5_readRights {o : Int32 × ZS} {x0 : Nat} {x1 : Nat} {S : ZS}  (hf : f_X5_readRights x0 x1 S = some o)   : EqT S o.2 := by
  have h_S : EqT S S := eqt_0
  unfold f_X5_readRights at hf
  exact eqt_t h_S (fq_X5_readRights_0  hf)
theorem fq_X11_isFile_17 {o : Int32 × ZS} {t0 : Int32} {S : ZS}  (hf : f_X11_isFile_17 t0 S = some o)   : EqT S o.2 := by
  have h_S : EqT S S := eqt_0
  unfold f_X11_isFile_17 at hf
  obtain ⟨-, hf⟩ := m_chkE hf
  cases hf
  exact h_S
theorem fq_X11_isFile_16 {o : Int32 × ZS} {S : ZS}  (hf : f_X11_isFile_16 S = some o)   : EqT S o.2 := by
  have h_S : EqT S S := eqt_0
  unfold f_X11_isFile_16 at hf
  exact eqt_t h_S (fq_X11_isFile_17  hf)
theorem fq_X11_isFile_0 {o : Int32 × ZS} {x0 : Int32} {S : ZS}  (hf : f_X11_isFile_0 x0 S = some o)   : EqT S o.2 := by
  have h_S : EqT S S := eqt_0
  unfold f_X11_isFile_0 at hf
  rcases m_ifE hf with ⟨-, hf⟩ | ⟨-, hf⟩
  ·
    exact eqt_t h_S (fq_X11_isFile_16  hf)
  ·
    rcases m_ifE hf with ⟨-, hf⟩ | ⟨-, hf⟩
    ·
      exact eqt_t h_S (fq_X11_isFile_16  hf)
    ·
      exact eqt_t h_S (fq_X11_isFile_17  hf)
theorem fq_X11_isFile {o : Int32 × ZS} {x0 : Int32} {S : ZS}  (hf : f_X11_isFile x0 S = some o)   : EqT S o.2 := by
  have h_S : EqT S S := eqt_0
  unfold f_X11_isFile at hf
  exact eqt_t h_S (fq_X11_isFile_0  hf)
theorem fq_X11_squareOf_30 {o : Int32 × ZS} {t0 : Int32} {S : ZS}  (hf : f_X11_squareOf_30 t0 S = some o)   : EqT S o.2 := by
  have h_S : EqT S S := eqt_0
  unfold f_X11_squareOf_30 at hf
  cases hf
  exact h_S
theorem fq_X11_squareOf_29 {o : Int32 × ZS} {S : ZS}  (hf : f_X11_squareOf_29 S = some o)   : EqT S o.2 := by
  have h_S : EqT S S := eqt_0
  unfold f_X11_squareOf_29 at hf
  exact eqt_t h_S (fq_X11_squareOf_30  hf)
theorem fq_X11_squareOf_0 {o : Int32 × ZS} {x0 : Int32} {x1 : Int32} {S : ZS}  (hf : f_X11_squareOf_0 x0 x1 S = some o)   : EqT S o.2 := by
  have h_S : EqT S S := eqt_0
  unfold f_X11_squareOf_0 at hf
  obtain ⟨o1, ho, hf⟩ := m_calE hf
  have h_o1 := eqt_t h_S (fq_X11_isFile ho)
  clear ho
  rcases m_ifE hf with ⟨-, hf⟩ | ⟨-, hf⟩
  ·
    exact eqt_t h_o1 (fq_X11_squareOf_29  hf)
  ·
    obtain ⟨o2, ho, hf⟩ := m_calE hf
    have h_o2 := eqt_t h_o1 (fq_X11_isRank ho)
    clear ho
    rcases m_ifE hf with ⟨-, hf⟩ | ⟨-, hf⟩
    ·
      exact eqt_t h_o2 (fq_X11_squareOf_29  hf)
    ·
      obtain ⟨v3, e1, hf⟩ := m_bndE hf
      obtain ⟨v4, e2, hf⟩ := m_bndE hf
      obtain ⟨v5, e3, hf⟩ := m_bndE hf
      obtain ⟨v6, e4, hf⟩ := m_bndE hf
      exact eqt_t h_o2 (fq_X11_squareOf_30  hf)
theorem fq_X11_squareOf {o : Int32 × ZS} {x0 : Int32} {x1 : Int32} {S : ZS}  (hf : f_X11_squareOf x0 x1 S = some o)   : EqT S o.2 := by
  have h_S : EqT S S := eqt_0
  unfold f_X11_squareOf at hf
  exact eqt_t h_S (fq_X11_squareOf_0  hf)
theorem fq_X5_readPassed_65 {o : Int32 × ZS} {t0 : Int32} {S : ZS}  (hf : f_X5_readPassed_65 t0 S = some o)   : EqT S o.2 := by
  have h_S : EqT S S := eqt_0
  unfold f_X5_readPassed_65 at hf
  obtain ⟨-, hf⟩ := m_chkE hf
  cases hf
  exact h_S
theorem fq_X5_readPassed_0 {o : Int32 × ZS} {x0 : Nat} {x1 : Nat} {S : ZS}  (hf : f_X5_readPassed_0 x0 x1 S = some o)   : EqT S o.2 := by
  have h_S : EqT S S := eqt_0
  unfold f_X5_readPassed_0 at hf
  obtain ⟨q1, hf⟩ := m_chkE hf
  obtain ⟨o1, ho, hf⟩ := m_calE hf
  have h_o1 := eqt_t h_S (fq_X5_skip ho)
  clear ho
  rcases m_ifE hf with ⟨-, hf⟩ | ⟨-, hf⟩
  ·
    obtain ⟨q2, hf⟩ := m_chkE hf
    obtain ⟨b2, -, hf⟩ := m_calE hf
    obtain ⟨q3, hf⟩ := m_chkE hf
    obtain ⟨q4, hf⟩ := m_chkE hf
    obtain ⟨o3, ho, hf⟩ := m_calE hf
    have h_o3 := eqt_t h_o1 (fq_X6_at ho)
    clear ho
    obtain ⟨q5, hf⟩ := m_chkE hf
    obtain ⟨b4, -, hf⟩ := m_calE hf
    obtain ⟨q6, hf⟩ := m_chkE hf
    obtain ⟨v5, e7, hf⟩ := m_bndE hf
    obtain ⟨q8, hf⟩ := m_chkE hf
    obtain ⟨o6, ho, hf⟩ := m_calE hf
    have h_o6 := eqt_t h_o3 (fq_X6_at ho)
    clear ho
    obtain ⟨o7, ho, hf⟩ := m_calE hf
    have h_o7 := eqt_t h_o6 (fq_X11_squareOf ho)
    clear ho
    obtain ⟨q9, hf⟩ := m_chkE hf
    obtain ⟨S8, e10, hf⟩ := m_bndE hf
    have h_S8 := eqt_I h_o7 e10
    obtain ⟨q11, hf⟩ := m_chkE hf
    obtain ⟨v9, e12, hf⟩ := m_bndE hf
    obtain ⟨q13, hf⟩ := m_chkE hf
    obtain ⟨S10, e14, hf⟩ := m_bndE hf
    have h_S10 := eqt_I h_S8 e14
    obtain ⟨q15, hf⟩ := m_chkE hf
    rcases m_ifE hf with ⟨-, hf⟩ | ⟨-, hf⟩
    ·
      exact eqt_t h_S10 (fq_X5_readPassed_65  hf)
    ·
      exact eqt_t h_S10 (fq_X5_readPassed_65  hf)
  ·
    obtain ⟨-, hf⟩ := m_chkE hf
    cases hf
    exact h_o1
theorem fq_X5_readPassed {o : Int32 × ZS} {x0 : Nat} {x1 : Nat} {S : ZS}  (hf : f_X5_readPassed x0 x1 S = some o)   : EqT S o.2 := by
  have h_S : EqT S S := eqt_0
  unfold f_X5_readPassed at hf
  exact eqt_t h_S (fq_X5_readPassed_0  hf)
theorem fq_X5_readNumber_113 {o : Int32 × ZS} {t0 : Int32} {S : ZS}  (hf : f_X5_readNumber_113 t0 S = some o)   : EqT S o.2 := by
  have h_S : EqT S S := eqt_0
  unfold f_X5_readNumber_113 at hf
  cases hf
  exact h_S
theorem fq_X5_readNumber_108 {o : Int32 × ZS} {S : ZS}  (hf : f_X5_readNumber_108 S = some o)   : EqT S o.2 := by
  have h_S : EqT S S := eqt_0
  unfold f_X5_readNumber_108 at hf
  exact eqt_t h_S (fq_X5_readNumber_113  hf)
theorem fq_X5_readNumber_95 {o : Int32 × ZS} {x0 : Nat} {x1 : Int32} {x2 : Int32} {t0 : Int32} {S : ZS}  (hf : f_X5_readNumber_95 x0 x1 x2 t0 S = some o)   : EqT S o.2 := by
  have h_S : EqT S S := eqt_0
  unfold f_X5_readNumber_95 at hf
  obtain ⟨q1, hf⟩ := m_chkE hf
  rcases m_ifE hf with ⟨-, hf⟩ | ⟨-, hf⟩
  ·
    exact eqt_t h_S (fq_X5_readNumber_108  hf)
  ·
    rcases m_ifE hf with ⟨-, hf⟩ | ⟨-, hf⟩
    ·
      exact eqt_t h_S (fq_X5_readNumber_113  hf)
    ·
      exact eqt_t h_S (fq_X5_readNumber_108  hf)
theorem fq_X5_readNumber_94 {o : Int32 × ZS} {x0 : Nat} {x1 : Int32} {x2 : Int32} {S : ZS}  (hf : f_X5_readNumber_94 x0 x1 x2 S = some o)   : EqT S o.2 := by
  have h_S : EqT S S := eqt_0
  unfold f_X5_readNumber_94 at hf
  exact eqt_t h_S (fq_X5_readNumber_95  hf)
theorem fq_X5_readNumber_67 {o : Int32 × ZS} {x0 : Nat} {x1 : Int32} {x2 : Int32} {S : ZS}  (hf : f_X5_readNumber_67 x0 x1 x2 S = some o)   : EqT S o.2 := by
  have h_S : EqT S S := eqt_0
  unfold f_X5_readNumber_67 at hf
  obtain ⟨q1, hf⟩ := m_chkE hf
  obtain ⟨b1, -, hf⟩ := m_calE hf
  obtain ⟨q2, hf⟩ := m_chkE hf
  obtain ⟨o2, ho, hf⟩ := m_calE hf
  have h_o2 := eqt_t h_S (fq_X6_at ho)
  clear ho
  rcases m_ifE hf with ⟨-, hf⟩ | ⟨-, hf⟩
  ·
    obtain ⟨q3, hf⟩ := m_chkE hf
    obtain ⟨v3, e4, hf⟩ := m_bndE hf
    rcases m_ifE hf with ⟨-, hf⟩ | ⟨-, hf⟩
    ·
      exact eqt_t h_o2 (fq_X5_readNumber_94  hf)
    ·
      exact eqt_t h_o2 (fq_X5_readNumber_95  hf)
  ·
    exact eqt_t h_o2 (fq_X5_readNumber_94  hf)
theorem fq_X5_readNumber_7s {o : Int32 × ZS} {self7 : Nat → Int32 → Int32 → ZS → Option (Int32 × ZS)} {x0 : Nat} {x1 : Int32} {x2 : Int32} {S : ZS} (hself7 : ∀ (z0 : Nat) (z1 : Int32) (z2 : Int32) (S : ZS) (o : Int32 × ZS), self7 z0 z1 z2 S = some o → EqT S o.2) (hf : f_X5_readNumber_7s self7 x0 x1 x2 S = some o)   : EqT S o.2 := by
  have h_S : EqT S S := eqt_0
  unfold f_X5_readNumber_7s at hf
  obtain ⟨q1, hf⟩ := m_chkE hf
  obtain ⟨v1, e2, hf⟩ := m_bndE hf
  rcases m_ifE hf with ⟨-, hf⟩ | ⟨-, hf⟩
  ·
    exact eqt_t h_S (fq_X5_readNumber_67  hf)
  ·
    obtain ⟨q3, hf⟩ := m_chkE hf
    obtain ⟨b2, -, hf⟩ := m_calE hf
    obtain ⟨q4, hf⟩ := m_chkE hf
    obtain ⟨q5, hf⟩ := m_chkE hf
    obtain ⟨o3, ho, hf⟩ := m_calE hf
    have h_o3 := eqt_t h_S (fq_X6_at ho)
    clear ho
    obtain ⟨o4, ho, hf⟩ := m_calE hf
    have h_o4 := eqt_t h_o3 (fq_X11_isDigit ho)
    clear ho
    rcases m_ifE hf with ⟨-, hf⟩ | ⟨-, hf⟩
    ·
      exact eqt_t h_o4 (fq_X5_readNumber_67  hf)
    ·
      obtain ⟨v5, e6, hf⟩ := m_bndE hf
      obtain ⟨q7, hf⟩ := m_chkE hf
      obtain ⟨b6, -, hf⟩ := m_calE hf
      obtain ⟨q8, hf⟩ := m_chkE hf
      obtain ⟨q9, hf⟩ := m_chkE hf
      obtain ⟨o7, ho, hf⟩ := m_calE hf
      have h_o7 := eqt_t h_o4 (fq_X6_at ho)
      clear ho
      obtain ⟨v8, e10, hf⟩ := m_bndE hf
      obtain ⟨v9, e11, hf⟩ := m_bndE hf
      obtain ⟨q12, hf⟩ := m_chkE hf
      obtain ⟨v10, e13, hf⟩ := m_bndE hf
      obtain ⟨q14, hf⟩ := m_chkE hf
      obtain ⟨S11, e15, hf⟩ := m_bndE hf
      have h_S11 := eqt_I h_o7 e15
      exact eqt_t h_S11 (hself7 _ _ _ _ _ hf)
theorem fq_X5_readNumber_7   (n : Nat) : ∀ (y0 : Nat) (y1 : Int32) (y2 : Int32) (S : ZS) (o : Int32 × ZS), f_X5_readNumber_7  n y0 y1 y2 S = some o → EqT S o.2 := by
  induction n with
  | zero => intro y0 y1 y2 S o hf; cases hf
  | succ n ih => intro y0 y1 y2 S o hf; exact fq_X5_readNumber_7s  ih hf
theorem fq_X5_readNumber_0 {o : Int32 × ZS} {x0 : Nat} {S : ZS}  (hf : f_X5_readNumber_0 x0 S = some o)   : EqT S o.2 := by
  have h_S : EqT S S := eqt_0
  unfold f_X5_readNumber_0 at hf
  obtain ⟨q1, hf⟩ := m_chkE hf
  exact eqt_t h_S (fq_X5_readNumber_7  _ _ _ _ _ _ hf)
theorem fq_X5_readNumber {o : Int32 × ZS} {x0 : Nat} {S : ZS}  (hf : f_X5_readNumber x0 S = some o)   : EqT S o.2 := by
  have h_S : EqT S S := eqt_0
  unfold f_X5_readNumber at hf
  exact eqt_t h_S (fq_X5_readNumber_0  hf)
theorem fq_X5_readMoveNumber_20 {o : Int32 × ZS} {t0 : Int32} {S : ZS}  (hf : f_X5_readMoveNumber_20 t0 S = some o)   : EqT S o.2 := by
  have h_S : EqT S S := eqt_0
  unfold f_X5_readMoveNumber_20 at hf
  obtain ⟨-, hf⟩ := m_chkE hf
  cases hf
  exact h_S
theorem fq_X5_readMoveNumber_0 {o : Int32 × ZS} {x0 : Nat} {x1 : Nat} {S : ZS}  (hf : f_X5_readMoveNumber_0 x0 x1 S = some o)   : EqT S o.2 := by
  have h_S : EqT S S := eqt_0
  unfold f_X5_readMoveNumber_0 at hf
  obtain ⟨q1, hf⟩ := m_chkE hf
  obtain ⟨o1, ho, hf⟩ := m_calE hf
  have h_o1 := eqt_t h_S (fq_X5_readNumber ho)
  clear ho
  obtain ⟨q2, hf⟩ := m_chkE hf
  obtain ⟨S2, e3, hf⟩ := m_bndE hf
  have h_S2 := eqt_I h_o1 e3
  obtain ⟨q4, hf⟩ := m_chkE hf
  rcases m_ifE hf with ⟨-, hf⟩ | ⟨-, hf⟩
  ·
    exact eqt_t h_S2 (fq_X5_readMoveNumber_20  hf)
  ·
    exact eqt_t h_S2 (fq_X5_readMoveNumber_20  hf)
theorem fq_X5_readMoveNumber {o : Int32 × ZS} {x0 : Nat} {x1 : Nat} {S : ZS}  (hf : f_X5_readMoveNumber x0 x1 S = some o)   : EqT S o.2 := by
  have h_S : EqT S S := eqt_0
  unfold f_X5_readMoveNumber at hf
  exact eqt_t h_S (fq_X5_readMoveNumber_0  hf)
theorem fq_X5_hasSoundMen_115 {o : Int32 × ZS} {t0 : Int32} {S : ZS}  (hf : f_X5_hasSoundMen_115 t0 S = some o)   : EqT S o.2 := by
  have h_S : EqT S S := eqt_0
  unfold f_X5_hasSoundMen_115 at hf
  obtain ⟨-, hf⟩ := m_chkE hf
  cases hf
  exact h_S
theorem fq_X5_hasSoundMen_114 {o : Int32 × ZS} {S : ZS}  (hf : f_X5_hasSoundMen_114 S = some o)   : EqT S o.2 := by
  have h_S : EqT S S := eqt_0
  unfold f_X5_hasSoundMen_114 at hf
  exact eqt_t h_S (fq_X5_hasSoundMen_115  hf)
theorem fq_X5_hasSoundMen_73 {o : Int32 × ZS} {self6 : Nat → Int32 → Int32 → Int32 → ZS → Option (Int32 × ZS)} {x0 : Nat} {x1 : Int32} {x2 : Int32} {x3 : Int32} {S : ZS} (hself6 : ∀ (z0 : Nat) (z1 : Int32) (z2 : Int32) (z3 : Int32) (S : ZS) (o : Int32 × ZS), self6 z0 z1 z2 z3 S = some o → EqT S o.2) (hf : f_X5_hasSoundMen_73 self6 x0 x1 x2 x3 S = some o)   : EqT S o.2 := by
  have h_S : EqT S S := eqt_0
  unfold f_X5_hasSoundMen_73 at hf
  obtain ⟨v1, e1, hf⟩ := m_bndE hf
  exact eqt_t h_S (hself6 _ _ _ _ _ _ hf)
theorem fq_X5_hasSoundMen_71 {o : Int32 × ZS} {S : ZS}  (hf : f_X5_hasSoundMen_71 S = some o)   : EqT S o.2 := by
  have h_S : EqT S S := eqt_0
  unfold f_X5_hasSoundMen_71 at hf
  obtain ⟨-, hf⟩ := m_chkE hf
  cases hf
  exact h_S
theorem fq_X5_hasSoundMen_48 {o : Int32 × ZS} {self6 : Nat → Int32 → Int32 → Int32 → ZS → Option (Int32 × ZS)} {x0 : Nat} {x1 : Int32} {x3 : Int32} {t0 : Int32} {t1 : Int32} {S : ZS} (hself6 : ∀ (z0 : Nat) (z1 : Int32) (z2 : Int32) (z3 : Int32) (S : ZS) (o : Int32 × ZS), self6 z0 z1 z2 z3 S = some o → EqT S o.2) (hf : f_X5_hasSoundMen_48 self6 x0 x1 x3 t0 t1 S = some o)   : EqT S o.2 := by
  have h_S : EqT S S := eqt_0
  unfold f_X5_hasSoundMen_48 at hf
  obtain ⟨v1, e1, hf⟩ := m_bndE hf
  obtain ⟨q2, hf⟩ := m_chkE hf
  obtain ⟨o2, ho, hf⟩ := m_calE hf
  have h_o2 := eqt_t h_S (fq_X0_kindAt ho)
  clear ho
  rcases m_ifE hf with ⟨-, hf⟩ | ⟨-, hf⟩
  ·
    rcases m_ifE hf with ⟨-, hf⟩ | ⟨-, hf⟩
    ·
      exact eqt_t h_o2 (fq_X5_hasSoundMen_71  hf)
    ·
      rcases m_ifE hf with ⟨-, hf⟩ | ⟨-, hf⟩
      ·
        exact eqt_t h_o2 (fq_X5_hasSoundMen_73 hself6 hf)
      ·
        exact eqt_t h_o2 (fq_X5_hasSoundMen_71  hf)
  ·
    exact eqt_t h_o2 (fq_X5_hasSoundMen_73 hself6 hf)
theorem fq_X5_hasSoundMen_29 {o : Int32 × ZS} {self6 : Nat → Int32 → Int32 → Int32 → ZS → Option (Int32 × ZS)} {x0 : Nat} {x2 : Int32} {x3 : Int32} {t0 : Int32} {t1 : Int32} {S : ZS} (hself6 : ∀ (z0 : Nat) (z1 : Int32) (z2 : Int32) (z3 : Int32) (S : ZS) (o : Int32 × ZS), self6 z0 z1 z2 z3 S = some o → EqT S o.2) (hf : f_X5_hasSoundMen_29 self6 x0 x2 x3 t0 t1 S = some o)   : EqT S o.2 := by
  have h_S : EqT S S := eqt_0
  unfold f_X5_hasSoundMen_29 at hf
  obtain ⟨v1, e1, hf⟩ := m_bndE hf
  obtain ⟨q2, hf⟩ := m_chkE hf
  obtain ⟨b2, -, hf⟩ := m_calE hf
  obtain ⟨q3, hf⟩ := m_chkE hf
  obtain ⟨-, hf⟩ := m_chkE hf
  obtain ⟨v3, e4, hf⟩ := m_bndE hf
  rcases m_ifE hf with ⟨-, hf⟩ | ⟨-, hf⟩
  ·
    exact eqt_t h_S (fq_X5_hasSoundMen_48 hself6 hf)
  ·
    exact eqt_t h_S (fq_X5_hasSoundMen_48 hself6 hf)
theorem fq_X5_hasSoundMen_6s {o : Int32 × ZS} {self6 : Nat → Int32 → Int32 → Int32 → ZS → Option (Int32 × ZS)} {x0 : Nat} {x1 : Int32} {x2 : Int32} {x3 : Int32} {S : ZS} (hself6 : ∀ (z0 : Nat) (z1 : Int32) (z2 : Int32) (z3 : Int32) (S : ZS) (o : Int32 × ZS), self6 z0 z1 z2 z3 S = some o → EqT S o.2) (hf : f_X5_hasSoundMen_6s self6 x0 x1 x2 x3 S = some o)   : EqT S o.2 := by
  have h_S : EqT S S := eqt_0
  unfold f_X5_hasSoundMen_6s at hf
  rcases m_ifE hf with ⟨-, hf⟩ | ⟨-, hf⟩
  ·
    rcases m_ifE hf with ⟨-, hf⟩ | ⟨-, hf⟩
    ·
      rcases m_ifE hf with ⟨-, hf⟩ | ⟨-, hf⟩
      ·
        obtain ⟨q1, hf⟩ := m_chkE hf
        obtain ⟨v1, e2, hf⟩ := m_bndE hf
        obtain ⟨q3, hf⟩ := m_chkE hf
        obtain ⟨o2, ho, hf⟩ := m_calE hf
        have h_o2 := eqt_t h_S (fq_X0_kingOf ho)
        clear ho
        obtain ⟨q4, hf⟩ := m_chkE hf
        obtain ⟨q5, hf⟩ := m_chkE hf
        obtain ⟨o3, ho, hf⟩ := m_calE hf
        have h_o3 := eqt_t h_o2 (fq_X0_attacked ho)
        clear ho
        rcases m_ifE hf with ⟨-, hf⟩ | ⟨-, hf⟩
        ·
          exact eqt_t h_o3 (fq_X5_hasSoundMen_115  hf)
        ·
          exact eqt_t h_o3 (fq_X5_hasSoundMen_114  hf)
      ·
        exact eqt_t h_S (fq_X5_hasSoundMen_114  hf)
    ·
      exact eqt_t h_S (fq_X5_hasSoundMen_114  hf)
  ·
    obtain ⟨q6, hf⟩ := m_chkE hf
    obtain ⟨b4, -, hf⟩ := m_calE hf
    obtain ⟨q7, hf⟩ := m_chkE hf
    obtain ⟨-, hf⟩ := m_chkE hf
    obtain ⟨v5, e8, hf⟩ := m_bndE hf
    rcases m_ifE hf with ⟨-, hf⟩ | ⟨-, hf⟩
    ·
      exact eqt_t h_S (fq_X5_hasSoundMen_29 hself6 hf)
    ·
      exact eqt_t h_S (fq_X5_hasSoundMen_29 hself6 hf)
theorem fq_X5_hasSoundMen_6   (n : Nat) : ∀ (y0 : Nat) (y1 : Int32) (y2 : Int32) (y3 : Int32) (S : ZS) (o : Int32 × ZS), f_X5_hasSoundMen_6  n y0 y1 y2 y3 S = some o → EqT S o.2 := by
  induction n with
  | zero => intro y0 y1 y2 y3 S o hf; cases hf
  | succ n ih => intro y0 y1 y2 y3 S o hf; exact fq_X5_hasSoundMen_6s  ih hf
theorem fq_X5_hasSoundMen_0 {o : Int32 × ZS} {x0 : Nat} {S : ZS}  (hf : f_X5_hasSoundMen_0 x0 S = some o)   : EqT S o.2 := by
  have h_S : EqT S S := eqt_0
  unfold f_X5_hasSoundMen_0 at hf
  exact eqt_t h_S (fq_X5_hasSoundMen_6  _ _ _ _ _ _ _ hf)
theorem fq_X5_hasSoundMen {o : Int32 × ZS} {x0 : Nat} {S : ZS}  (hf : f_X5_hasSoundMen x0 S = some o)   : EqT S o.2 := by
  have h_S : EqT S S := eqt_0
  unfold f_X5_hasSoundMen at hf
  exact eqt_t h_S (fq_X5_hasSoundMen_0  hf)
theorem fq_X5_hasSoundRights_92 {o : Int32 × ZS} {self2 : Nat → Int32 → ZS → Option (Int32 × ZS)} {x0 : Nat} {x1 : Int32} {S : ZS} (hself2 : ∀ (z0 : Nat) (z1 : Int32) (S : ZS) (o : Int32 × ZS), self2 z0 z1 S = some o → EqT S o.2) (hf : f_X5_hasSoundRights_92 self2 x0 x1 S = some o)   : EqT S o.2 := by
  have h_S : EqT S S := eqt_0
  unfold f_X5_hasSoundRights_92 at hf
  obtain ⟨v1, e1, hf⟩ := m_bndE hf
  exact eqt_t h_S (hself2 _ _ _ _ hf)
theorem fq_X5_hasSoundRights_90 {o : Int32 × ZS} {S : ZS}  (hf : f_X5_hasSoundRights_90 S = some o)   : EqT S o.2 := by
  have h_S : EqT S S := eqt_0
  unfold f_X5_hasSoundRights_90 at hf
  obtain ⟨-, hf⟩ := m_chkE hf
  cases hf
  exact h_S
theorem fq_X5_hasSoundRights_50 {o : Int32 × ZS} {self2 : Nat → Int32 → ZS → Option (Int32 × ZS)} {x0 : Nat} {x1 : Int32} {x2 : Int32} {x3 : Int32} {t0 : Int32} {S : ZS} (hself2 : ∀ (z0 : Nat) (z1 : Int32) (S : ZS) (o : Int32 × ZS), self2 z0 z1 S = some o → EqT S o.2) (hf : f_X5_hasSoundRights_50 self2 x0 x1 x2 x3 t0 S = some o)   : EqT S o.2 := by
  have h_S : EqT S S := eqt_0
  unfold f_X5_hasSoundRights_50 at hf
  obtain ⟨q1, hf⟩ := m_chkE hf
  obtain ⟨v1, e2, hf⟩ := m_bndE hf
  obtain ⟨v2, e3, hf⟩ := m_bndE hf
  rcases m_ifE hf with ⟨-, hf⟩ | ⟨-, hf⟩
  ·
    obtain ⟨q4, hf⟩ := m_chkE hf
    obtain ⟨b3, -, hf⟩ := m_calE hf
    obtain ⟨q5, hf⟩ := m_chkE hf
    obtain ⟨-, hf⟩ := m_chkE hf
    obtain ⟨v4, e6, hf⟩ := m_bndE hf
    obtain ⟨v5, e7, hf⟩ := m_bndE hf
    rcases m_ifE hf with ⟨-, hf⟩ | ⟨-, hf⟩
    ·
      obtain ⟨q8, hf⟩ := m_chkE hf
      obtain ⟨b6, -, hf⟩ := m_calE hf
      obtain ⟨q9, hf⟩ := m_chkE hf
      obtain ⟨-, hf⟩ := m_chkE hf
      obtain ⟨v7, e10, hf⟩ := m_bndE hf
      obtain ⟨v8, e11, hf⟩ := m_bndE hf
      rcases m_ifE hf with ⟨-, hf⟩ | ⟨-, hf⟩
      ·
        exact eqt_t h_S (fq_X5_hasSoundRights_92 hself2 hf)
      ·
        exact eqt_t h_S (fq_X5_hasSoundRights_90  hf)
    ·
      exact eqt_t h_S (fq_X5_hasSoundRights_90  hf)
  ·
    exact eqt_t h_S (fq_X5_hasSoundRights_92 hself2 hf)
theorem fq_X5_hasSoundRights_34 {o : Int32 × ZS} {self2 : Nat → Int32 → ZS → Option (Int32 × ZS)} {x0 : Nat} {x1 : Int32} {x2 : Int32} {t0 : Int32} {S : ZS} (hself2 : ∀ (z0 : Nat) (z1 : Int32) (S : ZS) (o : Int32 × ZS), self2 z0 z1 S = some o → EqT S o.2) (hf : f_X5_hasSoundRights_34 self2 x0 x1 x2 t0 S = some o)   : EqT S o.2 := by
  have h_S : EqT S S := eqt_0
  unfold f_X5_hasSoundRights_34 at hf
  obtain ⟨v1, e1, hf⟩ := m_bndE hf
  rcases m_ifE hf with ⟨-, hf⟩ | ⟨-, hf⟩
  ·
    obtain ⟨v3, e2, hf⟩ := m_bndE hf
    exact eqt_t h_S (fq_X5_hasSoundRights_50 hself2 hf)
  ·
    obtain ⟨v2, e3, hf⟩ := m_bndE hf
    exact eqt_t h_S (fq_X5_hasSoundRights_50 hself2 hf)
theorem fq_X5_hasSoundRights_22 {o : Int32 × ZS} {self2 : Nat → Int32 → ZS → Option (Int32 × ZS)} {x0 : Nat} {x1 : Int32} {t0 : Int32} {S : ZS} (hself2 : ∀ (z0 : Nat) (z1 : Int32) (S : ZS) (o : Int32 × ZS), self2 z0 z1 S = some o → EqT S o.2) (hf : f_X5_hasSoundRights_22 self2 x0 x1 t0 S = some o)   : EqT S o.2 := by
  have h_S : EqT S S := eqt_0
  unfold f_X5_hasSoundRights_22 at hf
  rcases m_ifE hf with ⟨-, hf⟩ | ⟨-, hf⟩
  ·
    exact eqt_t h_S (fq_X5_hasSoundRights_34 hself2 hf)
  ·
    exact eqt_t h_S (fq_X5_hasSoundRights_34 hself2 hf)
theorem fq_X5_hasSoundRights_2s {o : Int32 × ZS} {self2 : Nat → Int32 → ZS → Option (Int32 × ZS)} {x0 : Nat} {x1 : Int32} {S : ZS} (hself2 : ∀ (z0 : Nat) (z1 : Int32) (S : ZS) (o : Int32 × ZS), self2 z0 z1 S = some o → EqT S o.2) (hf : f_X5_hasSoundRights_2s self2 x0 x1 S = some o)   : EqT S o.2 := by
  have h_S : EqT S S := eqt_0
  unfold f_X5_hasSoundRights_2s at hf
  obtain ⟨-, hf⟩ := m_chkE hf
  obtain ⟨o1, ho, hf⟩ := m_calE hf
  have h_o1 := eqt_t h_S (fq_J0_length_8abf5 ho)
  clear ho
  rcases m_ifE hf with ⟨-, hf⟩ | ⟨-, hf⟩
  ·
    obtain ⟨-, hf⟩ := m_chkE hf
    cases hf
    exact h_o1
  ·
    rcases m_ifE hf with ⟨-, hf⟩ | ⟨-, hf⟩
    ·
      exact eqt_t h_o1 (fq_X5_hasSoundRights_22 hself2 hf)
    ·
      exact eqt_t h_o1 (fq_X5_hasSoundRights_22 hself2 hf)
theorem fq_X5_hasSoundRights_2   (n : Nat) : ∀ (y0 : Nat) (y1 : Int32) (S : ZS) (o : Int32 × ZS), f_X5_hasSoundRights_2  n y0 y1 S = some o → EqT S o.2 := by
  induction n with
  | zero => intro y0 y1 S o hf; cases hf
  | succ n ih => intro y0 y1 S o hf; exact fq_X5_hasSoundRights_2s  ih hf
theorem fq_X5_hasSoundRights_0 {o : Int32 × ZS} {x0 : Nat} {S : ZS}  (hf : f_X5_hasSoundRights_0 x0 S = some o)   : EqT S o.2 := by
  have h_S : EqT S S := eqt_0
  unfold f_X5_hasSoundRights_0 at hf
  exact eqt_t h_S (fq_X5_hasSoundRights_2  _ _ _ _ _ hf)
theorem fq_X5_hasSoundRights {o : Int32 × ZS} {x0 : Nat} {S : ZS}  (hf : f_X5_hasSoundRights x0 S = some o)   : EqT S o.2 := by
  have h_S : EqT S S := eqt_0
  unfold f_X5_hasSoundRights at hf
  exact eqt_t h_S (fq_X5_hasSoundRights_0  hf)
theorem fq_X5_hasSoundPassed_49 {o : Int32 × ZS} {S : ZS}  (hf : f_X5_hasSoundPassed_49 S = some o)   : EqT S o.2 := by
  have h_S : EqT S S := eqt_0
  unfold f_X5_hasSoundPassed_49 at hf
  obtain ⟨-, hf⟩ := m_chkE hf
  cases hf
  exact h_S
theorem fq_X5_hasSoundPassed_113 {o : Int32 × ZS} {t0 : Int32} {S : ZS}  (hf : f_X5_hasSoundPassed_113 t0 S = some o)   : EqT S o.2 := by
  have h_S : EqT S S := eqt_0
  unfold f_X5_hasSoundPassed_113 at hf
  obtain ⟨-, hf⟩ := m_chkE hf
  cases hf
  exact h_S
theorem fq_X5_hasSoundPassed_112 {o : Int32 × ZS} {S : ZS}  (hf : f_X5_hasSoundPassed_112 S = some o)   : EqT S o.2 := by
  have h_S : EqT S S := eqt_0
  unfold f_X5_hasSoundPassed_112 at hf
  exact eqt_t h_S (fq_X5_hasSoundPassed_113  hf)
theorem fq_X5_hasSoundPassed_62 {o : Int32 × ZS} {x0 : Nat} {x1 : Int32} {t0 : Int32} {S : ZS}  (hf : f_X5_hasSoundPassed_62 x0 x1 t0 S = some o)   : EqT S o.2 := by
  have h_S : EqT S S := eqt_0
  unfold f_X5_hasSoundPassed_62 at hf
  obtain ⟨q1, hf⟩ := m_chkE hf
  obtain ⟨b1, -, hf⟩ := m_calE hf
  obtain ⟨v2, e2, hf⟩ := m_bndE hf
  obtain ⟨q3, hf⟩ := m_chkE hf
  obtain ⟨-, hf⟩ := m_chkE hf
  obtain ⟨v3, e4, hf⟩ := m_bndE hf
  obtain ⟨q5, hf⟩ := m_chkE hf
  obtain ⟨v4, e6, hf⟩ := m_bndE hf
  obtain ⟨v5, e7, hf⟩ := m_bndE hf
  obtain ⟨v6, e8, hf⟩ := m_bndE hf
  rcases m_ifE hf with ⟨-, hf⟩ | ⟨-, hf⟩
  ·
    obtain ⟨q9, hf⟩ := m_chkE hf
    obtain ⟨b7, -, hf⟩ := m_calE hf
    obtain ⟨v8, e10, hf⟩ := m_bndE hf
    obtain ⟨q11, hf⟩ := m_chkE hf
    obtain ⟨-, hf⟩ := m_chkE hf
    obtain ⟨v9, e12, hf⟩ := m_bndE hf
    rcases m_ifE hf with ⟨-, hf⟩ | ⟨-, hf⟩
    ·
      obtain ⟨q13, hf⟩ := m_chkE hf
      obtain ⟨q14, hf⟩ := m_chkE hf
      obtain ⟨o10, ho, hf⟩ := m_calE hf
      have h_o10 := eqt_t h_S (fq_X0_pawnAttacks ho)
      clear ho
      rcases m_ifE hf with ⟨-, hf⟩ | ⟨-, hf⟩
      ·
        exact eqt_t h_o10 (fq_X5_hasSoundPassed_112  hf)
      ·
        exact eqt_t h_o10 (fq_X5_hasSoundPassed_113  hf)
    ·
      exact eqt_t h_S (fq_X5_hasSoundPassed_112  hf)
  ·
    exact eqt_t h_S (fq_X5_hasSoundPassed_112  hf)
theorem fq_X5_hasSoundPassed_37 {o : Int32 × ZS} {x0 : Nat} {x1 : Int32} {x2 : Int32} {t0 : Int32} {t1 : Int32} {S : ZS}  (hf : f_X5_hasSoundPassed_37 x0 x1 x2 t0 t1 S = some o)   : EqT S o.2 := by
  have h_S : EqT S S := eqt_0
  unfold f_X5_hasSoundPassed_37 at hf
  rcases m_ifE hf with ⟨-, hf⟩ | ⟨-, hf⟩
  ·
    obtain ⟨q1, hf⟩ := m_chkE hf
    obtain ⟨b1, -, hf⟩ := m_calE hf
    obtain ⟨q2, hf⟩ := m_chkE hf
    obtain ⟨-, hf⟩ := m_chkE hf
    obtain ⟨v2, e3, hf⟩ := m_bndE hf
    rcases m_ifE hf with ⟨-, hf⟩ | ⟨-, hf⟩
    ·
      rcases m_ifE hf with ⟨-, hf⟩ | ⟨-, hf⟩
      ·
        exact eqt_t h_S (fq_X5_hasSoundPassed_62  hf)
      ·
        exact eqt_t h_S (fq_X5_hasSoundPassed_62  hf)
    ·
      exact eqt_t h_S (fq_X5_hasSoundPassed_49  hf)
  ·
    exact eqt_t h_S (fq_X5_hasSoundPassed_49  hf)
theorem fq_X5_hasSoundPassed_24 {o : Int32 × ZS} {x0 : Nat} {x1 : Int32} {t0 : Int32} {S : ZS}  (hf : f_X5_hasSoundPassed_24 x0 x1 t0 S = some o)   : EqT S o.2 := by
  have h_S : EqT S S := eqt_0
  unfold f_X5_hasSoundPassed_24 at hf
  obtain ⟨v1, e1, hf⟩ := m_bndE hf
  rcases m_ifE hf with ⟨-, hf⟩ | ⟨-, hf⟩
  ·
    exact eqt_t h_S (fq_X5_hasSoundPassed_37  hf)
  ·
    exact eqt_t h_S (fq_X5_hasSoundPassed_37  hf)
theorem fq_X5_hasSoundPassed_0 {o : Int32 × ZS} {x0 : Nat} {S : ZS}  (hf : f_X5_hasSoundPassed_0 x0 S = some o)   : EqT S o.2 := by
  have h_S : EqT S S := eqt_0
  unfold f_X5_hasSoundPassed_0 at hf
  obtain ⟨q1, hf⟩ := m_chkE hf
  rcases m_ifE hf with ⟨-, hf⟩ | ⟨-, hf⟩
  ·
    obtain ⟨-, hf⟩ := m_chkE hf
    cases hf
    exact h_S
  ·
    obtain ⟨q2, hf⟩ := m_chkE hf
    rcases m_ifE hf with ⟨-, hf⟩ | ⟨-, hf⟩
    ·
      exact eqt_t h_S (fq_X5_hasSoundPassed_24  hf)
    ·
      exact eqt_t h_S (fq_X5_hasSoundPassed_24  hf)
theorem fq_X5_hasSoundPassed {o : Int32 × ZS} {x0 : Nat} {S : ZS}  (hf : f_X5_hasSoundPassed x0 S = some o)   : EqT S o.2 := by
  have h_S : EqT S S := eqt_0
  unfold f_X5_hasSoundPassed at hf
  exact eqt_t h_S (fq_X5_hasSoundPassed_0  hf)
theorem fq_X5_readInto_146 {o : Int32 × ZS} {t0 : Int32} {S : ZS}  (hf : f_X5_readInto_146 t0 S = some o)   : EqT S o.2 := by
  have h_S : EqT S S := eqt_0
  unfold f_X5_readInto_146 at hf
  obtain ⟨-, hf⟩ := m_chkE hf
  cases hf
  exact h_S
theorem fq_X5_readInto_145 {o : Int32 × ZS} {S : ZS}  (hf : f_X5_readInto_145 S = some o)   : EqT S o.2 := by
  have h_S : EqT S S := eqt_0
  unfold f_X5_readInto_145 at hf
  exact eqt_t h_S (fq_X5_readInto_146  hf)
theorem fq_X5_readInto_0 {o : Int32 × ZS} {x0 : Nat} {x1 : Nat} {x2 : Nat} {S : ZS}  (hf : f_X5_readInto_0 x0 x1 x2 S = some o)   : EqT S o.2 := by
  have h_S : EqT S S := eqt_0
  unfold f_X5_readInto_0 at hf
  obtain ⟨q1, hf⟩ := m_chkE hf
  obtain ⟨S1, e2, hf⟩ := m_bndE hf
  have h_S1 := eqt_P h_S e2
  obtain ⟨q3, hf⟩ := m_chkE hf
  obtain ⟨S2, e4, hf⟩ := m_bndE hf
  have h_S2 := eqt_I h_S1 e4
  obtain ⟨q5, hf⟩ := m_chkE hf
  obtain ⟨o3, ho, hf⟩ := m_calE hf
  have h_o3 := eqt_t h_S2 (fq_X0_wipe ho)
  clear ho
  obtain ⟨q6, hf⟩ := m_chkE hf
  obtain ⟨o4, ho, hf⟩ := m_calE hf
  have h_o4 := eqt_t h_o3 (fq_X5_readMen ho)
  clear ho
  rcases m_ifE hf with ⟨-, hf⟩ | ⟨-, hf⟩
  ·
    exact eqt_t h_o4 (fq_X5_readInto_145  hf)
  ·
    obtain ⟨q7, hf⟩ := m_chkE hf
    obtain ⟨o5, ho, hf⟩ := m_calE hf
    have h_o5 := eqt_t h_o4 (fq_X5_skip ho)
    clear ho
    rcases m_ifE hf with ⟨-, hf⟩ | ⟨-, hf⟩
    ·
      exact eqt_t h_o5 (fq_X5_readInto_145  hf)
    ·
      obtain ⟨q8, hf⟩ := m_chkE hf
      obtain ⟨o6, ho, hf⟩ := m_calE hf
      have h_o6 := eqt_t h_o5 (fq_X5_readSide ho)
      clear ho
      rcases m_ifE hf with ⟨-, hf⟩ | ⟨-, hf⟩
      ·
        exact eqt_t h_o6 (fq_X5_readInto_145  hf)
      ·
        obtain ⟨q9, hf⟩ := m_chkE hf
        obtain ⟨o7, ho, hf⟩ := m_calE hf
        have h_o7 := eqt_t h_o6 (fq_X5_skip ho)
        clear ho
        rcases m_ifE hf with ⟨-, hf⟩ | ⟨-, hf⟩
        ·
          exact eqt_t h_o7 (fq_X5_readInto_145  hf)
        ·
          obtain ⟨q10, hf⟩ := m_chkE hf
          obtain ⟨o8, ho, hf⟩ := m_calE hf
          have h_o8 := eqt_t h_o7 (fq_X5_readRights ho)
          clear ho
          rcases m_ifE hf with ⟨-, hf⟩ | ⟨-, hf⟩
          ·
            exact eqt_t h_o8 (fq_X5_readInto_145  hf)
          ·
            obtain ⟨q11, hf⟩ := m_chkE hf
            obtain ⟨o9, ho, hf⟩ := m_calE hf
            have h_o9 := eqt_t h_o8 (fq_X5_skip ho)
            clear ho
            rcases m_ifE hf with ⟨-, hf⟩ | ⟨-, hf⟩
            ·
              exact eqt_t h_o9 (fq_X5_readInto_145  hf)
            ·
              obtain ⟨q12, hf⟩ := m_chkE hf
              obtain ⟨o10, ho, hf⟩ := m_calE hf
              have h_o10 := eqt_t h_o9 (fq_X5_readPassed ho)
              clear ho
              rcases m_ifE hf with ⟨-, hf⟩ | ⟨-, hf⟩
              ·
                exact eqt_t h_o10 (fq_X5_readInto_145  hf)
              ·
                obtain ⟨q13, hf⟩ := m_chkE hf
                obtain ⟨o11, ho, hf⟩ := m_calE hf
                have h_o11 := eqt_t h_o10 (fq_X5_skip ho)
                clear ho
                rcases m_ifE hf with ⟨-, hf⟩ | ⟨-, hf⟩
                ·
                  exact eqt_t h_o11 (fq_X5_readInto_145  hf)
                ·
                  obtain ⟨q14, hf⟩ := m_chkE hf
                  obtain ⟨o12, ho, hf⟩ := m_calE hf
                  have h_o12 := eqt_t h_o11 (fq_X5_readNumber ho)
                  clear ho
                  rcases m_ifE hf with ⟨-, hf⟩ | ⟨-, hf⟩
                  ·
                    exact eqt_t h_o12 (fq_X5_readInto_145  hf)
                  ·
                    obtain ⟨q15, hf⟩ := m_chkE hf
                    obtain ⟨o13, ho, hf⟩ := m_calE hf
                    have h_o13 := eqt_t h_o12 (fq_X5_skip ho)
                    clear ho
                    rcases m_ifE hf with ⟨-, hf⟩ | ⟨-, hf⟩
                    ·
                      exact eqt_t h_o13 (fq_X5_readInto_145  hf)
                    ·
                      obtain ⟨q16, hf⟩ := m_chkE hf
                      obtain ⟨o14, ho, hf⟩ := m_calE hf
                      have h_o14 := eqt_t h_o13 (fq_X5_readMoveNumber ho)
                      clear ho
                      rcases m_ifE hf with ⟨-, hf⟩ | ⟨-, hf⟩
                      ·
                        exact eqt_t h_o14 (fq_X5_readInto_145  hf)
                      ·
                        obtain ⟨q17, hf⟩ := m_chkE hf
                        obtain ⟨q18, hf⟩ := m_chkE hf
                        obtain ⟨b15, -, hf⟩ := m_calE hf
                        obtain ⟨q19, hf⟩ := m_chkE hf
                        obtain ⟨o16, ho, hf⟩ := m_calE hf
                        have h_o16 := eqt_t h_o14 (fq_X6_size ho)
                        clear ho
                        rcases m_ifE hf with ⟨-, hf⟩ | ⟨-, hf⟩
                        ·
                          obtain ⟨o17, ho, hf⟩ := m_calE hf
                          have h_o17 := eqt_t h_o16 (fq_X5_hasSoundMen ho)
                          clear ho
                          rcases m_ifE hf with ⟨-, hf⟩ | ⟨-, hf⟩
                          ·
                            exact eqt_t h_o17 (fq_X5_readInto_145  hf)
                          ·
                            obtain ⟨o18, ho, hf⟩ := m_calE hf
                            have h_o18 := eqt_t h_o17 (fq_X5_hasSoundRights ho)
                            clear ho
                            rcases m_ifE hf with ⟨-, hf⟩ | ⟨-, hf⟩
                            ·
                              exact eqt_t h_o18 (fq_X5_readInto_145  hf)
                            ·
                              obtain ⟨o19, ho, hf⟩ := m_calE hf
                              have h_o19 := eqt_t h_o18 (fq_X5_hasSoundPassed ho)
                              clear ho
                              rcases m_ifE hf with ⟨-, hf⟩ | ⟨-, hf⟩
                              ·
                                exact eqt_t h_o19 (fq_X5_readInto_145  hf)
                              ·
                                exact eqt_t h_o19 (fq_X5_readInto_146  hf)
                        ·
                          exact eqt_t h_o16 (fq_X5_readInto_145  hf)
theorem fq_X5_readInto {o : Int32 × ZS} {x0 : Nat} {x1 : Nat} {x2 : Nat} {S : ZS}  (hf : f_X5_readInto x0 x1 x2 S = some o)   : EqT S o.2 := by
  have h_S : EqT S S := eqt_0
  unfold f_X5_readInto at hf
  exact eqt_t h_S (fq_X5_readInto_0  hf)
theorem fq_X6_indexOf_30 {o : Int32 × ZS} {x3 : Int32} {S : ZS}  (hf : f_X6_indexOf_30 x3 S = some o)   : EqT S o.2 := by
  have h_S : EqT S S := eqt_0
  unfold f_X6_indexOf_30 at hf
  cases hf
  exact h_S
theorem fq_X6_indexOf_6s {o : Int32 × ZS} {self6 : Nat → Int32 → Int32 → ZS → Option (Int32 × ZS)} {x0 : Nat} {x1 : Int32} {x3 : Int32} {S : ZS} (hself6 : ∀ (z0 : Nat) (z1 : Int32) (z2 : Int32) (S : ZS) (o : Int32 × ZS), self6 z0 z1 z2 S = some o → EqT S o.2) (hf : f_X6_indexOf_6s self6 x0 x1 x3 S = some o)   : EqT S o.2 := by
  have h_S : EqT S S := eqt_0
  unfold f_X6_indexOf_6s at hf
  obtain ⟨q1, hf⟩ := m_chkE hf
  rcases m_ifE hf with ⟨-, hf⟩ | ⟨-, hf⟩
  ·
    exact eqt_t h_S (fq_X6_indexOf_30  hf)
  ·
    obtain ⟨q2, hf⟩ := m_chkE hf
    obtain ⟨b1, -, hf⟩ := m_calE hf
    obtain ⟨q3, hf⟩ := m_chkE hf
    obtain ⟨-, hf⟩ := m_chkE hf
    obtain ⟨v2, e4, hf⟩ := m_bndE hf
    rcases m_ifE hf with ⟨-, hf⟩ | ⟨-, hf⟩
    ·
      exact eqt_t h_S (fq_X6_indexOf_30  hf)
    ·
      obtain ⟨v3, e5, hf⟩ := m_bndE hf
      exact eqt_t h_S (hself6 _ _ _ _ _ hf)
theorem fq_X6_indexOf_6   (n : Nat) : ∀ (y0 : Nat) (y1 : Int32) (y2 : Int32) (S : ZS) (o : Int32 × ZS), f_X6_indexOf_6  n y0 y1 y2 S = some o → EqT S o.2 := by
  induction n with
  | zero => intro y0 y1 y2 S o hf; cases hf
  | succ n ih => intro y0 y1 y2 S o hf; exact fq_X6_indexOf_6s  ih hf
theorem fq_X6_indexOf_0 {o : Int32 × ZS} {x0 : Nat} {x1 : Int32} {x2 : Int32} {S : ZS}  (hf : f_X6_indexOf_0 x0 x1 x2 S = some o)   : EqT S o.2 := by
  have h_S : EqT S S := eqt_0
  unfold f_X6_indexOf_0 at hf
  obtain ⟨v1, e1, hf⟩ := m_bndE hf
  exact eqt_t h_S (fq_X6_indexOf_6  _ _ _ _ _ _ hf)
theorem fq_X6_indexOf {o : Int32 × ZS} {x0 : Nat} {x1 : Int32} {x2 : Int32} {S : ZS}  (hf : f_X6_indexOf x0 x1 x2 S = some o)   : EqT S o.2 := by
  have h_S : EqT S S := eqt_0
  unfold f_X6_indexOf at hf
  exact eqt_t h_S (fq_X6_indexOf_0  hf)
theorem fq_X2_resultHere_2s {o : Int32 × ZS} {self2 : Nat → Int32 → ZS → Option (Int32 × ZS)} {x0 : Nat} {x1 : Int32} {S : ZS} (hself2 : ∀ (z0 : Nat) (z1 : Int32) (S : ZS) (o : Int32 × ZS), self2 z0 z1 S = some o → EqT S o.2) (hf : f_X2_resultHere_2s self2 x0 x1 S = some o)   : EqT S o.2 := by
  have h_S : EqT S S := eqt_0
  unfold f_X2_resultHere_2s at hf
  rcases m_ifE hf with ⟨-, hf⟩ | ⟨-, hf⟩
  ·
    cases hf
    exact h_S
  ·
    obtain ⟨q1, hf⟩ := m_chkE hf
    obtain ⟨b1, -, hf⟩ := m_calE hf
    obtain ⟨o2, ho, hf⟩ := m_calE hf
    have h_o2 := eqt_t h_S (fq_X11_resultSign ho)
    clear ho
    obtain ⟨q2, hf⟩ := m_chkE hf
    obtain ⟨q3, hf⟩ := m_chkE hf
    obtain ⟨o3, ho, hf⟩ := m_calE hf
    have h_o3 := eqt_t h_o2 (fq_X6_holds ho)
    clear ho
    rcases m_ifE hf with ⟨-, hf⟩ | ⟨-, hf⟩
    ·
      obtain ⟨v4, e4, hf⟩ := m_bndE hf
      exact eqt_t h_o3 (hself2 _ _ _ _ hf)
    ·
      cases hf
      exact h_o3
theorem fq_X2_resultHere_2   (n : Nat) : ∀ (y0 : Nat) (y1 : Int32) (S : ZS) (o : Int32 × ZS), f_X2_resultHere_2  n y0 y1 S = some o → EqT S o.2 := by
  induction n with
  | zero => intro y0 y1 S o hf; cases hf
  | succ n ih => intro y0 y1 S o hf; exact fq_X2_resultHere_2s  ih hf
theorem fq_X2_resultHere_0 {o : Int32 × ZS} {x0 : Nat} {S : ZS}  (hf : f_X2_resultHere_0 x0 S = some o)   : EqT S o.2 := by
  have h_S : EqT S S := eqt_0
  unfold f_X2_resultHere_0 at hf
  exact eqt_t h_S (fq_X2_resultHere_2  _ _ _ _ _ hf)
theorem fq_X2_resultHere {o : Int32 × ZS} {x0 : Nat} {S : ZS}  (hf : f_X2_resultHere x0 S = some o)   : EqT S o.2 := by
  have h_S : EqT S S := eqt_0
  unfold f_X2_resultHere at hf
  exact eqt_t h_S (fq_X2_resultHere_0  hf)
theorem fq_X2_openLine_0 {o : Int32 × ZS} {x0 : Nat} {x1 : Int32} {S : ZS}  (hf : f_X2_openLine_0 x0 x1 S = some o)   : EqT S o.2 := by
  have h_S : EqT S S := eqt_0
  unfold f_X2_openLine_0 at hf
  obtain ⟨q1, hf⟩ := m_chkE hf
  obtain ⟨b1, -, hf⟩ := m_calE hf
  obtain ⟨q2, hf⟩ := m_chkE hf
  obtain ⟨b2, -, hf⟩ := m_calE hf
  obtain ⟨q3, hf⟩ := m_chkE hf
  obtain ⟨b3, -, hf⟩ := m_calE hf
  obtain ⟨v4, e4, hf⟩ := m_bndE hf
  obtain ⟨q5, hf⟩ := m_chkE hf
  obtain ⟨-, hf⟩ := m_chkE hf
  obtain ⟨v5, e6, hf⟩ := m_bndE hf
  obtain ⟨q7, hf⟩ := m_chkE hf
  obtain ⟨o6, ho, hf⟩ := m_calE hf
  have h_o6 := eqt_t h_S (fq_X1_at ho)
  clear ho
  obtain ⟨q8, hf⟩ := m_chkE hf
  obtain ⟨q9, hf⟩ := m_chkE hf
  obtain ⟨-, hf⟩ := m_chkE hf
  obtain ⟨S7, e10, hf⟩ := m_bndE hf
  have h_S7 := eqt_A h_o6 e10
  obtain ⟨q11, hf⟩ := m_chkE hf
  obtain ⟨b8, -, hf⟩ := m_calE hf
  obtain ⟨q12, hf⟩ := m_chkE hf
  obtain ⟨b9, -, hf⟩ := m_calE hf
  obtain ⟨q13, hf⟩ := m_chkE hf
  obtain ⟨-, hf⟩ := m_chkE hf
  obtain ⟨v10, e14, hf⟩ := m_bndE hf
  obtain ⟨q15, hf⟩ := m_chkE hf
  obtain ⟨-, hf⟩ := m_chkE hf
  obtain ⟨S11, e16, hf⟩ := m_bndE hf
  have h_S11 := eqt_A h_S7 e16
  obtain ⟨q17, hf⟩ := m_chkE hf
  obtain ⟨b12, -, hf⟩ := m_calE hf
  obtain ⟨q18, hf⟩ := m_chkE hf
  obtain ⟨-, hf⟩ := m_chkE hf
  obtain ⟨b13, -, hf⟩ := m_calE hf
  obtain ⟨q19, hf⟩ := m_chkE hf
  obtain ⟨b14, -, hf⟩ := m_calE hf
  obtain ⟨v15, e20, hf⟩ := m_bndE hf
  obtain ⟨q21, hf⟩ := m_chkE hf
  obtain ⟨-, hf⟩ := m_chkE hf
  obtain ⟨b16, -, hf⟩ := m_calE hf
  obtain ⟨q22, hf⟩ := m_chkE hf
  obtain ⟨o17, ho, hf⟩ := m_calE hf
  have h_o17 := eqt_t h_S11 (fq_X0_copyFrom ho)
  clear ho
  obtain ⟨q23, hf⟩ := m_chkE hf
  obtain ⟨v18, e24, hf⟩ := m_bndE hf
  obtain ⟨q25, hf⟩ := m_chkE hf
  obtain ⟨S19, e26, hf⟩ := m_bndE hf
  have h_S19 := eqt_I h_o17 e26
  cases hf
  exact h_S19
theorem fq_X2_openLine {o : Int32 × ZS} {x0 : Nat} {x1 : Int32} {S : ZS}  (hf : f_X2_openLine x0 x1 S = some o)   : EqT S o.2 := by
  have h_S : EqT S S := eqt_0
  unfold f_X2_openLine at hf
  exact eqt_t h_S (fq_X2_openLine_0  hf)
theorem fq_X2_readDigits_67 {o : Int32 × ZS} {x3 : Int32} {S : ZS}  (hf : f_X2_readDigits_67 x3 S = some o)   : EqT S o.2 := by
  have h_S : EqT S S := eqt_0
  unfold f_X2_readDigits_67 at hf
  cases hf
  exact h_S
theorem fq_X2_readDigits_9s {o : Int32 × ZS} {self9 : Nat → Int32 → Int32 → ZS → Option (Int32 × ZS)} {x0 : Nat} {x2 : Int32} {x3 : Int32} {S : ZS} (hself9 : ∀ (z0 : Nat) (z1 : Int32) (z2 : Int32) (S : ZS) (o : Int32 × ZS), self9 z0 z1 z2 S = some o → EqT S o.2) (hf : f_X2_readDigits_9s self9 x0 x2 x3 S = some o)   : EqT S o.2 := by
  have h_S : EqT S S := eqt_0
  unfold f_X2_readDigits_9s at hf
  obtain ⟨q1, hf⟩ := m_chkE hf
  rcases m_ifE hf with ⟨-, hf⟩ | ⟨-, hf⟩
  ·
    exact eqt_t h_S (fq_X2_readDigits_67  hf)
  ·
    obtain ⟨q2, hf⟩ := m_chkE hf
    obtain ⟨b1, -, hf⟩ := m_calE hf
    obtain ⟨q3, hf⟩ := m_chkE hf
    obtain ⟨q4, hf⟩ := m_chkE hf
    obtain ⟨o2, ho, hf⟩ := m_calE hf
    have h_o2 := eqt_t h_S (fq_X6_at ho)
    clear ho
    obtain ⟨o3, ho, hf⟩ := m_calE hf
    have h_o3 := eqt_t h_o2 (fq_X11_isDigit ho)
    clear ho
    rcases m_ifE hf with ⟨-, hf⟩ | ⟨-, hf⟩
    ·
      exact eqt_t h_o3 (fq_X2_readDigits_67  hf)
    ·
      obtain ⟨v4, e5, hf⟩ := m_bndE hf
      obtain ⟨q6, hf⟩ := m_chkE hf
      obtain ⟨b5, -, hf⟩ := m_calE hf
      obtain ⟨q7, hf⟩ := m_chkE hf
      obtain ⟨q8, hf⟩ := m_chkE hf
      obtain ⟨o6, ho, hf⟩ := m_calE hf
      have h_o6 := eqt_t h_o3 (fq_X6_at ho)
      clear ho
      obtain ⟨v7, e9, hf⟩ := m_bndE hf
      obtain ⟨v8, e10, hf⟩ := m_bndE hf
      obtain ⟨q11, hf⟩ := m_chkE hf
      obtain ⟨v9, e12, hf⟩ := m_bndE hf
      obtain ⟨q13, hf⟩ := m_chkE hf
      obtain ⟨S10, e14, hf⟩ := m_bndE hf
      have h_S10 := eqt_I h_o6 e14
      exact eqt_t h_S10 (hself9 _ _ _ _ _ hf)
theorem fq_X2_readDigits_9   (n : Nat) : ∀ (y0 : Nat) (y1 : Int32) (y2 : Int32) (S : ZS) (o : Int32 × ZS), f_X2_readDigits_9  n y0 y1 y2 S = some o → EqT S o.2 := by
  induction n with
  | zero => intro y0 y1 y2 S o hf; cases hf
  | succ n ih => intro y0 y1 y2 S o hf; exact fq_X2_readDigits_9s  ih hf
theorem fq_X2_readDigits_0 {o : Int32 × ZS} {x0 : Nat} {x1 : Int32} {S : ZS}  (hf : f_X2_readDigits_0 x0 x1 S = some o)   : EqT S o.2 := by
  have h_S : EqT S S := eqt_0
  unfold f_X2_readDigits_0 at hf
  obtain ⟨q1, hf⟩ := m_chkE hf
  obtain ⟨v1, e2, hf⟩ := m_bndE hf
  exact eqt_t h_S (fq_X2_readDigits_9  _ _ _ _ _ _ hf)
theorem fq_X2_readDigits {o : Int32 × ZS} {x0 : Nat} {x1 : Int32} {S : ZS}  (hf : f_X2_readDigits x0 x1 S = some o)   : EqT S o.2 := by
  have h_S : EqT S S := eqt_0
  unfold f_X2_readDigits at hf
  exact eqt_t h_S (fq_X2_readDigits_0  hf)
theorem fq_X2_readNumber_78 {o : Int32 × ZS} {t0 : Int32} {S : ZS}  (hf : f_X2_readNumber_78 t0 S = some o)   : EqT S o.2 := by
  have h_S : EqT S S := eqt_0
  unfold f_X2_readNumber_78 at hf
  obtain ⟨-, hf⟩ := m_chkE hf
  cases hf
  exact h_S
theorem fq_X2_readNumber_73 {o : Int32 × ZS} {S : ZS}  (hf : f_X2_readNumber_73 S = some o)   : EqT S o.2 := by
  have h_S : EqT S S := eqt_0
  unfold f_X2_readNumber_73 at hf
  exact eqt_t h_S (fq_X2_readNumber_78  hf)
theorem fq_X2_readNumber_54 {o : Int32 × ZS} {x0 : Nat} {x1 : Int32} {x2 : Int32} {x3 : Int32} {S : ZS}  (hf : f_X2_readNumber_54 x0 x1 x2 x3 S = some o)   : EqT S o.2 := by
  have h_S : EqT S S := eqt_0
  unfold f_X2_readNumber_54 at hf
  obtain ⟨q1, hf⟩ := m_chkE hf
  obtain ⟨o1, ho, hf⟩ := m_calE hf
  have h_o1 := eqt_t h_S (fq_X2_skipBlanks ho)
  clear ho
  rcases m_ifE hf with ⟨-, hf⟩ | ⟨-, hf⟩
  ·
    exact eqt_t h_o1 (fq_X2_readNumber_73  hf)
  ·
    obtain ⟨q2, hf⟩ := m_chkE hf
    obtain ⟨o2, ho, hf⟩ := m_calE hf
    have h_o2 := eqt_t h_o1 (fq_X2_refuse ho)
    clear ho
    rcases m_ifE hf with ⟨-, hf⟩ | ⟨-, hf⟩
    ·
      exact eqt_t h_o2 (fq_X2_readNumber_78  hf)
    ·
      exact eqt_t h_o2 (fq_X2_readNumber_73  hf)
theorem fq_X2_readNumber_11s {o : Int32 × ZS} {self11 : Nat → Int32 → Int32 → Int32 → ZS → Option (Int32 × ZS)} {x0 : Nat} {x1 : Int32} {x2 : Int32} {x3 : Int32} {S : ZS} (hself11 : ∀ (z0 : Nat) (z1 : Int32) (z2 : Int32) (z3 : Int32) (S : ZS) (o : Int32 × ZS), self11 z0 z1 z2 z3 S = some o → EqT S o.2) (hf : f_X2_readNumber_11s self11 x0 x1 x2 x3 S = some o)   : EqT S o.2 := by
  have h_S : EqT S S := eqt_0
  unfold f_X2_readNumber_11s at hf
  obtain ⟨q1, hf⟩ := m_chkE hf
  obtain ⟨q2, hf⟩ := m_chkE hf
  obtain ⟨b1, -, hf⟩ := m_calE hf
  obtain ⟨q3, hf⟩ := m_chkE hf
  obtain ⟨o2, ho, hf⟩ := m_calE hf
  have h_o2 := eqt_t h_S (fq_X6_size ho)
  clear ho
  rcases m_ifE hf with ⟨-, hf⟩ | ⟨-, hf⟩
  ·
    exact eqt_t h_o2 (fq_X2_readNumber_54  hf)
  ·
    obtain ⟨q4, hf⟩ := m_chkE hf
    obtain ⟨b3, -, hf⟩ := m_calE hf
    obtain ⟨q5, hf⟩ := m_chkE hf
    obtain ⟨q6, hf⟩ := m_chkE hf
    obtain ⟨o4, ho, hf⟩ := m_calE hf
    have h_o4 := eqt_t h_o2 (fq_X6_at ho)
    clear ho
    rcases m_ifE hf with ⟨-, hf⟩ | ⟨-, hf⟩
    ·
      obtain ⟨q7, hf⟩ := m_chkE hf
      obtain ⟨v5, e8, hf⟩ := m_bndE hf
      obtain ⟨q9, hf⟩ := m_chkE hf
      obtain ⟨S6, e10, hf⟩ := m_bndE hf
      have h_S6 := eqt_I h_o4 e10
      exact eqt_t h_S6 (hself11 _ _ _ _ _ _ hf)
    ·
      exact eqt_t h_o4 (fq_X2_readNumber_54  hf)
theorem fq_X2_readNumber_11   (n : Nat) : ∀ (y0 : Nat) (y1 : Int32) (y2 : Int32) (y3 : Int32) (S : ZS) (o : Int32 × ZS), f_X2_readNumber_11  n y0 y1 y2 y3 S = some o → EqT S o.2 := by
  induction n with
  | zero => intro y0 y1 y2 y3 S o hf; cases hf
  | succ n ih => intro y0 y1 y2 y3 S o hf; exact fq_X2_readNumber_11s  ih hf
theorem fq_X2_readNumber_0 {o : Int32 × ZS} {x0 : Nat} {x1 : Int32} {S : ZS}  (hf : f_X2_readNumber_0 x0 x1 S = some o)   : EqT S o.2 := by
  have h_S : EqT S S := eqt_0
  unfold f_X2_readNumber_0 at hf
  obtain ⟨q1, hf⟩ := m_chkE hf
  obtain ⟨q2, hf⟩ := m_chkE hf
  obtain ⟨o1, ho, hf⟩ := m_calE hf
  have h_o1 := eqt_t h_S (fq_X2_readDigits ho)
  clear ho
  exact eqt_t h_o1 (fq_X2_readNumber_11  _ _ _ _ _ _ _ hf)
theorem fq_X2_readNumber {o : Int32 × ZS} {x0 : Nat} {x1 : Int32} {S : ZS}  (hf : f_X2_readNumber x0 x1 S = some o)   : EqT S o.2 := by
  have h_S : EqT S S := eqt_0
  unfold f_X2_readNumber at hf
  exact eqt_t h_S (fq_X2_readNumber_0  hf)
theorem fq_X2_isSign_43 {o : Int32 × ZS} {t0 : Int32} {S : ZS}  (hf : f_X2_isSign_43 t0 S = some o)   : EqT S o.2 := by
  have h_S : EqT S S := eqt_0
  unfold f_X2_isSign_43 at hf
  obtain ⟨-, hf⟩ := m_chkE hf
  cases hf
  exact h_S
theorem fq_X2_isSign_38 {o : Int32 × ZS} {S : ZS}  (hf : f_X2_isSign_38 S = some o)   : EqT S o.2 := by
  have h_S : EqT S S := eqt_0
  unfold f_X2_isSign_38 at hf
  exact eqt_t h_S (fq_X2_isSign_43  hf)
theorem fq_X2_isSign_0 {o : Int32 × ZS} {x0 : Int32} {S : ZS}  (hf : f_X2_isSign_0 x0 S = some o)   : EqT S o.2 := by
  have h_S : EqT S S := eqt_0
  unfold f_X2_isSign_0 at hf
  obtain ⟨o1, ho, hf⟩ := m_calE hf
  have h_o1 := eqt_t h_S (fq_X11_isLetter ho)
  clear ho
  rcases m_ifE hf with ⟨-, hf⟩ | ⟨-, hf⟩
  ·
    obtain ⟨o2, ho, hf⟩ := m_calE hf
    have h_o2 := eqt_t h_o1 (fq_X11_isDigit ho)
    clear ho
    rcases m_ifE hf with ⟨-, hf⟩ | ⟨-, hf⟩
    ·
      rcases m_ifE hf with ⟨-, hf⟩ | ⟨-, hf⟩
      ·
        exact eqt_t h_o2 (fq_X2_isSign_38  hf)
      ·
        rcases m_ifE hf with ⟨-, hf⟩ | ⟨-, hf⟩
        ·
          exact eqt_t h_o2 (fq_X2_isSign_38  hf)
        ·
          rcases m_ifE hf with ⟨-, hf⟩ | ⟨-, hf⟩
          ·
            exact eqt_t h_o2 (fq_X2_isSign_38  hf)
          ·
            rcases m_ifE hf with ⟨-, hf⟩ | ⟨-, hf⟩
            ·
              exact eqt_t h_o2 (fq_X2_isSign_38  hf)
            ·
              exact eqt_t h_o2 (fq_X2_isSign_43  hf)
    ·
      exact eqt_t h_o2 (fq_X2_isSign_38  hf)
  ·
    exact eqt_t h_o1 (fq_X2_isSign_38  hf)
theorem fq_X2_isSign {o : Int32 × ZS} {x0 : Int32} {S : ZS}  (hf : f_X2_isSign x0 S = some o)   : EqT S o.2 := by
  have h_S : EqT S S := eqt_0
  unfold f_X2_isSign at hf
  exact eqt_t h_S (fq_X2_isSign_0  hf)
theorem fq_X2_skipSigns_44 {o : Int32 × ZS} {S : ZS}  (hf : f_X2_skipSigns_44 S = some o)   : EqT S o.2 := by
  have h_S : EqT S S := eqt_0
  unfold f_X2_skipSigns_44 at hf
  cases hf
  exact h_S
theorem fq_X2_skipSigns_0s {o : Int32 × ZS} {self0 : Nat → ZS → Option (Int32 × ZS)} {x0 : Nat} {S : ZS} (hself0 : ∀ (z0 : Nat) (S : ZS) (o : Int32 × ZS), self0 z0 S = some o → EqT S o.2) (hf : f_X2_skipSigns_0s self0 x0 S = some o)   : EqT S o.2 := by
  have h_S : EqT S S := eqt_0
  unfold f_X2_skipSigns_0s at hf
  obtain ⟨q1, hf⟩ := m_chkE hf
  obtain ⟨q2, hf⟩ := m_chkE hf
  obtain ⟨b1, -, hf⟩ := m_calE hf
  obtain ⟨q3, hf⟩ := m_chkE hf
  obtain ⟨o2, ho, hf⟩ := m_calE hf
  have h_o2 := eqt_t h_S (fq_X6_size ho)
  clear ho
  rcases m_ifE hf with ⟨-, hf⟩ | ⟨-, hf⟩
  ·
    exact eqt_t h_o2 (fq_X2_skipSigns_44  hf)
  ·
    obtain ⟨q4, hf⟩ := m_chkE hf
    obtain ⟨b3, -, hf⟩ := m_calE hf
    obtain ⟨q5, hf⟩ := m_chkE hf
    obtain ⟨q6, hf⟩ := m_chkE hf
    obtain ⟨o4, ho, hf⟩ := m_calE hf
    have h_o4 := eqt_t h_o2 (fq_X6_at ho)
    clear ho
    obtain ⟨o5, ho, hf⟩ := m_calE hf
    have h_o5 := eqt_t h_o4 (fq_X2_isSign ho)
    clear ho
    rcases m_ifE hf with ⟨-, hf⟩ | ⟨-, hf⟩
    ·
      exact eqt_t h_o5 (fq_X2_skipSigns_44  hf)
    ·
      obtain ⟨q7, hf⟩ := m_chkE hf
      obtain ⟨v6, e8, hf⟩ := m_bndE hf
      obtain ⟨q9, hf⟩ := m_chkE hf
      obtain ⟨S7, e10, hf⟩ := m_bndE hf
      have h_S7 := eqt_I h_o5 e10
      exact eqt_t h_S7 (hself0 _ _ _ hf)
theorem fq_X2_skipSigns_0   (n : Nat) : ∀ (y0 : Nat) (S : ZS) (o : Int32 × ZS), f_X2_skipSigns_0  n y0 S = some o → EqT S o.2 := by
  induction n with
  | zero => intro y0 S o hf; cases hf
  | succ n ih => intro y0 S o hf; exact fq_X2_skipSigns_0s  ih hf
theorem fq_X2_skipSigns {o : Int32 × ZS} {x0 : Nat} {S : ZS}  (hf : f_X2_skipSigns x0 S = some o)   : EqT S o.2 := by
  have h_S : EqT S S := eqt_0
  unfold f_X2_skipSigns at hf
  exact eqt_t h_S (fq_X2_skipSigns_0  _ _ _ _ hf)
theorem fq_X11_kindOf_0 {o : Int32 × ZS} {x0 : Int32} {S : ZS}  (hf : f_X11_kindOf_0 x0 S = some o)   : EqT S o.2 := by
  have h_S : EqT S S := eqt_0
  unfold f_X11_kindOf_0 at hf
  obtain ⟨-, hf⟩ := m_chkE hf
  obtain ⟨o1, ho, hf⟩ := m_calE hf
  have h_o1 := eqt_t h_S (fq_J0_indexOf_0f7a4 ho)
  clear ho
  obtain ⟨v2, e1, hf⟩ := m_bndE hf
  cases hf
  exact h_o1
theorem fq_X11_kindOf {o : Int32 × ZS} {x0 : Int32} {S : ZS}  (hf : f_X11_kindOf x0 S = some o)   : EqT S o.2 := by
  have h_S : EqT S S := eqt_0
  unfold f_X11_kindOf at hf
  exact eqt_t h_S (fq_X11_kindOf_0  hf)
theorem fq_X8_parseApart_104 {o : Int32 × ZS} {t0 : Int32} {S : ZS}  (hf : f_X8_parseApart_104 t0 S = some o)   : EqT S o.2 := by
  have h_S : EqT S S := eqt_0
  unfold f_X8_parseApart_104 at hf
  obtain ⟨-, hf⟩ := m_chkE hf
  cases hf
  exact h_S
theorem fq_X8_parseApart_94 {o : Int32 × ZS} {x2 : Int32} {x3 : Int32} {S : ZS}  (hf : f_X8_parseApart_94 x2 x3 S = some o)   : EqT S o.2 := by
  have h_S : EqT S S := eqt_0
  unfold f_X8_parseApart_94 at hf
  rcases m_ifE hf with ⟨-, hf⟩ | ⟨-, hf⟩
  ·
    exact eqt_t h_S (fq_X8_parseApart_104  hf)
  ·
    exact eqt_t h_S (fq_X8_parseApart_104  hf)
theorem fq_X8_parseApart_49 {o : Int32 × ZS} {x0 : Nat} {x2 : Int32} {x3 : Int32} {S : ZS}  (hf : f_X8_parseApart_49 x0 x2 x3 S = some o)   : EqT S o.2 := by
  have h_S : EqT S S := eqt_0
  unfold f_X8_parseApart_49 at hf
  rcases m_ifE hf with ⟨-, hf⟩ | ⟨-, hf⟩
  ·
    exact eqt_t h_S (fq_X8_parseApart_94  hf)
  ·
    obtain ⟨q1, hf⟩ := m_chkE hf
    rcases m_ifE hf with ⟨-, hf⟩ | ⟨-, hf⟩
    ·
      exact eqt_t h_S (fq_X8_parseApart_94  hf)
    ·
      obtain ⟨q2, hf⟩ := m_chkE hf
      obtain ⟨b1, -, hf⟩ := m_calE hf
      obtain ⟨q3, hf⟩ := m_chkE hf
      obtain ⟨o2, ho, hf⟩ := m_calE hf
      have h_o2 := eqt_t h_S (fq_X6_at ho)
      clear ho
      obtain ⟨o3, ho, hf⟩ := m_calE hf
      have h_o3 := eqt_t h_o2 (fq_X11_isRank ho)
      clear ho
      rcases m_ifE hf with ⟨-, hf⟩ | ⟨-, hf⟩
      ·
        exact eqt_t h_o3 (fq_X8_parseApart_94  hf)
      ·
        obtain ⟨q4, hf⟩ := m_chkE hf
        obtain ⟨b4, -, hf⟩ := m_calE hf
        obtain ⟨q5, hf⟩ := m_chkE hf
        obtain ⟨o5, ho, hf⟩ := m_calE hf
        have h_o5 := eqt_t h_o3 (fq_X6_at ho)
        clear ho
        obtain ⟨v6, e6, hf⟩ := m_bndE hf
        obtain ⟨q7, hf⟩ := m_chkE hf
        obtain ⟨S7, e8, hf⟩ := m_bndE hf
        have h_S7 := eqt_I h_o5 e8
        obtain ⟨v8, e9, hf⟩ := m_bndE hf
        exact eqt_t h_S7 (fq_X8_parseApart_94  hf)
theorem fq_X8_parseApart_0 {o : Int32 × ZS} {x0 : Nat} {x1 : Int32} {x2 : Int32} {S : ZS}  (hf : f_X8_parseApart_0 x0 x1 x2 S = some o)   : EqT S o.2 := by
  have h_S : EqT S S := eqt_0
  unfold f_X8_parseApart_0 at hf
  obtain ⟨q1, hf⟩ := m_chkE hf
  obtain ⟨S1, e2, hf⟩ := m_bndE hf
  have h_S1 := eqt_I h_S e2
  obtain ⟨q3, hf⟩ := m_chkE hf
  obtain ⟨S2, e4, hf⟩ := m_bndE hf
  have h_S2 := eqt_I h_S1 e4
  rcases m_ifE hf with ⟨-, hf⟩ | ⟨-, hf⟩
  ·
    exact eqt_t h_S2 (fq_X8_parseApart_49  hf)
  ·
    obtain ⟨q5, hf⟩ := m_chkE hf
    obtain ⟨b3, -, hf⟩ := m_calE hf
    obtain ⟨q6, hf⟩ := m_chkE hf
    obtain ⟨o4, ho, hf⟩ := m_calE hf
    have h_o4 := eqt_t h_S2 (fq_X6_at ho)
    clear ho
    obtain ⟨o5, ho, hf⟩ := m_calE hf
    have h_o5 := eqt_t h_o4 (fq_X11_isFile ho)
    clear ho
    rcases m_ifE hf with ⟨-, hf⟩ | ⟨-, hf⟩
    ·
      exact eqt_t h_o5 (fq_X8_parseApart_49  hf)
    ·
      obtain ⟨q7, hf⟩ := m_chkE hf
      obtain ⟨b6, -, hf⟩ := m_calE hf
      obtain ⟨q8, hf⟩ := m_chkE hf
      obtain ⟨o7, ho, hf⟩ := m_calE hf
      have h_o7 := eqt_t h_o5 (fq_X6_at ho)
      clear ho
      obtain ⟨v8, e9, hf⟩ := m_bndE hf
      obtain ⟨q10, hf⟩ := m_chkE hf
      obtain ⟨S9, e11, hf⟩ := m_bndE hf
      have h_S9 := eqt_I h_o7 e11
      obtain ⟨v10, e12, hf⟩ := m_bndE hf
      exact eqt_t h_S9 (fq_X8_parseApart_49  hf)
theorem fq_X8_parseApart {o : Int32 × ZS} {x0 : Nat} {x1 : Int32} {x2 : Int32} {S : ZS}  (hf : f_X8_parseApart x0 x1 x2 S = some o)   : EqT S o.2 := by
  have h_S : EqT S S := eqt_0
  unfold f_X8_parseApart at hf
  exact eqt_t h_S (fq_X8_parseApart_0  hf)
theorem fq_X8_parse_232 {o : Int32 × ZS} {x0 : Nat} {x1 : Int32} {x2 : Int32} {t0 : Int32} {t1 : Nat} {S : ZS}  (hf : f_X8_parse_232 x0 x1 x2 t0 t1 S = some o)   : EqT S o.2 := by
  have h_S : EqT S S := eqt_0
  unfold f_X8_parse_232 at hf
  obtain ⟨q1, hf⟩ := m_chkE hf
  obtain ⟨S1, e2, hf⟩ := m_bndE hf
  have h_S1 := eqt_I h_S e2
  obtain ⟨q3, hf⟩ := m_chkE hf
  obtain ⟨v2, e4, hf⟩ := m_bndE hf
  obtain ⟨q5, hf⟩ := m_chkE hf
  obtain ⟨o3, ho, hf⟩ := m_calE hf
  have h_o3 := eqt_t h_S1 (fq_X8_parseApart ho)
  clear ho
  obtain ⟨-, hf⟩ := m_chkE hf
  cases hf
  exact h_o3
theorem fq_X8_parse_231 {o : Int32 × ZS} {x0 : Nat} {x1 : Int32} {x2 : Int32} {t0 : Nat} {S : ZS}  (hf : f_X8_parse_231 x0 x1 x2 t0 S = some o)   : EqT S o.2 := by
  have h_S : EqT S S := eqt_0
  unfold f_X8_parse_231 at hf
  exact eqt_t h_S (fq_X8_parse_232  hf)
theorem fq_X8_parse_166 {o : Int32 × ZS} {x0 : Nat} {x1 : Int32} {x2 : Int32} {S : ZS}  (hf : f_X8_parse_166 x0 x1 x2 S = some o)   : EqT S o.2 := by
  have h_S : EqT S S := eqt_0
  unfold f_X8_parse_166 at hf
  obtain ⟨q1, hf⟩ := m_chkE hf
  obtain ⟨b1, -, hf⟩ := m_calE hf
  obtain ⟨v2, e2, hf⟩ := m_bndE hf
  obtain ⟨q3, hf⟩ := m_chkE hf
  obtain ⟨o3, ho, hf⟩ := m_calE hf
  have h_o3 := eqt_t h_S (fq_X6_at ho)
  clear ho
  obtain ⟨q4, hf⟩ := m_chkE hf
  obtain ⟨b4, -, hf⟩ := m_calE hf
  obtain ⟨v5, e5, hf⟩ := m_bndE hf
  obtain ⟨q6, hf⟩ := m_chkE hf
  obtain ⟨o6, ho, hf⟩ := m_calE hf
  have h_o6 := eqt_t h_o3 (fq_X6_at ho)
  clear ho
  obtain ⟨o7, ho, hf⟩ := m_calE hf
  have h_o7 := eqt_t h_o6 (fq_X11_squareOf ho)
  clear ho
  obtain ⟨q7, hf⟩ := m_chkE hf
  obtain ⟨S8, e8, hf⟩ := m_bndE hf
  have h_S8 := eqt_I h_o7 e8
  obtain ⟨v9, e9, hf⟩ := m_bndE hf
  obtain ⟨q10, hf⟩ := m_chkE hf
  rcases m_ifE hf with ⟨-, hf⟩ | ⟨-, hf⟩
  ·
    obtain ⟨-, hf⟩ := m_chkE hf
    cases hf
    exact h_S8
  ·
    rcases m_ifE hf with ⟨-, hf⟩ | ⟨-, hf⟩
    ·
      exact eqt_t h_S8 (fq_X8_parse_231  hf)
    ·
      obtain ⟨q11, hf⟩ := m_chkE hf
      obtain ⟨b10, -, hf⟩ := m_calE hf
      obtain ⟨v11, e12, hf⟩ := m_bndE hf
      obtain ⟨q13, hf⟩ := m_chkE hf
      obtain ⟨o12, ho, hf⟩ := m_calE hf
      have h_o12 := eqt_t h_S8 (fq_X6_at ho)
      clear ho
      rcases m_ifE hf with ⟨-, hf⟩ | ⟨-, hf⟩
      ·
        exact eqt_t h_o12 (fq_X8_parse_232  hf)
      ·
        exact eqt_t h_o12 (fq_X8_parse_231  hf)
theorem fq_X8_parse_161 {o : Int32 × ZS} {S : ZS}  (hf : f_X8_parse_161 S = some o)   : EqT S o.2 := by
  have h_S : EqT S S := eqt_0
  unfold f_X8_parse_161 at hf
  obtain ⟨-, hf⟩ := m_chkE hf
  cases hf
  exact h_S
theorem fq_X8_parse_102 {o : Int32 × ZS} {x0 : Nat} {x1 : Int32} {x2 : Int32} {t0 : Int32} {t1 : Nat} {S : ZS}  (hf : f_X8_parse_102 x0 x1 x2 t0 t1 S = some o)   : EqT S o.2 := by
  have h_S : EqT S S := eqt_0
  unfold f_X8_parse_102 at hf
  obtain ⟨q1, hf⟩ := m_chkE hf
  obtain ⟨S1, e2, hf⟩ := m_bndE hf
  have h_S1 := eqt_I h_S e2
  obtain ⟨q3, hf⟩ := m_chkE hf
  rcases m_ifE hf with ⟨-, hf⟩ | ⟨-, hf⟩
  ·
    obtain ⟨q4, hf⟩ := m_chkE hf
    obtain ⟨b2, -, hf⟩ := m_calE hf
    obtain ⟨v3, e5, hf⟩ := m_bndE hf
    obtain ⟨q6, hf⟩ := m_chkE hf
    obtain ⟨o4, ho, hf⟩ := m_calE hf
    have h_o4 := eqt_t h_S1 (fq_X6_at ho)
    clear ho
    rcases m_ifE hf with ⟨-, hf⟩ | ⟨-, hf⟩
    ·
      obtain ⟨q7, hf⟩ := m_chkE hf
      obtain ⟨b5, -, hf⟩ := m_calE hf
      obtain ⟨v6, e8, hf⟩ := m_bndE hf
      obtain ⟨q9, hf⟩ := m_chkE hf
      obtain ⟨o7, ho, hf⟩ := m_calE hf
      have h_o7 := eqt_t h_o4 (fq_X6_at ho)
      clear ho
      obtain ⟨o8, ho, hf⟩ := m_calE hf
      have h_o8 := eqt_t h_o7 (fq_X11_kindOf ho)
      clear ho
      obtain ⟨q10, hf⟩ := m_chkE hf
      obtain ⟨S9, e11, hf⟩ := m_bndE hf
      have h_S9 := eqt_I h_o8 e11
      obtain ⟨q12, hf⟩ := m_chkE hf
      rcases m_ifE hf with ⟨-, hf⟩ | ⟨-, hf⟩
      ·
        exact eqt_t h_S9 (fq_X8_parse_161  hf)
      ·
        obtain ⟨q13, hf⟩ := m_chkE hf
        rcases m_ifE hf with ⟨-, hf⟩ | ⟨-, hf⟩
        ·
          obtain ⟨v10, e14, hf⟩ := m_bndE hf
          exact eqt_t h_S9 (fq_X8_parse_166  hf)
        ·
          exact eqt_t h_S9 (fq_X8_parse_161  hf)
    ·
      exact eqt_t h_o4 (fq_X8_parse_166  hf)
  ·
    exact eqt_t h_S1 (fq_X8_parse_166  hf)
theorem fq_X8_parse_72 {o : Int32 × ZS} {x0 : Nat} {t0 : Int32} {S : ZS}  (hf : f_X8_parse_72 x0 t0 S = some o)   : EqT S o.2 := by
  have h_S : EqT S S := eqt_0
  unfold f_X8_parse_72 at hf
  obtain ⟨q1, hf⟩ := m_chkE hf
  obtain ⟨b1, -, hf⟩ := m_calE hf
  obtain ⟨q2, hf⟩ := m_chkE hf
  obtain ⟨o2, ho, hf⟩ := m_calE hf
  have h_o2 := eqt_t h_S (fq_X6_size ho)
  clear ho
  rcases m_ifE hf with ⟨-, hf⟩ | ⟨-, hf⟩
  ·
    obtain ⟨q3, hf⟩ := m_chkE hf
    obtain ⟨b3, -, hf⟩ := m_calE hf
    obtain ⟨q4, hf⟩ := m_chkE hf
    obtain ⟨o4, ho, hf⟩ := m_calE hf
    have h_o4 := eqt_t h_o2 (fq_X6_at ho)
    clear ho
    obtain ⟨o5, ho, hf⟩ := m_calE hf
    have h_o5 := eqt_t h_o4 (fq_X11_kindOf ho)
    clear ho
    exact eqt_t h_o5 (fq_X8_parse_102  hf)
  ·
    exact eqt_t h_o2 (fq_X8_parse_102  hf)
theorem fq_X8_parse_40 {o : Int32 × ZS} {x0 : Nat} {t0 : Int32} {t1 : Nat} {S : ZS}  (hf : f_X8_parse_40 x0 t0 t1 S = some o)   : EqT S o.2 := by
  have h_S : EqT S S := eqt_0
  unfold f_X8_parse_40 at hf
  obtain ⟨q1, hf⟩ := m_chkE hf
  obtain ⟨S1, e2, hf⟩ := m_bndE hf
  have h_S1 := eqt_I h_S e2
  obtain ⟨q3, hf⟩ := m_chkE hf
  rcases m_ifE hf with ⟨-, hf⟩ | ⟨-, hf⟩
  ·
    obtain ⟨q4, hf⟩ := m_chkE hf
    obtain ⟨b2, -, hf⟩ := m_calE hf
    obtain ⟨q5, hf⟩ := m_chkE hf
    obtain ⟨o3, ho, hf⟩ := m_calE hf
    have h_o3 := eqt_t h_S1 (fq_X6_at ho)
    clear ho
    obtain ⟨o4, ho, hf⟩ := m_calE hf
    have h_o4 := eqt_t h_o3 (fq_X11_kindOf ho)
    clear ho
    rcases m_ifE hf with ⟨-, hf⟩ | ⟨-, hf⟩
    ·
      exact eqt_t h_o4 (fq_X8_parse_72  hf)
    ·
      exact eqt_t h_o4 (fq_X8_parse_72  hf)
  ·
    obtain ⟨-, hf⟩ := m_chkE hf
    cases hf
    exact h_S1
theorem fq_X8_parse_0 {o : Int32 × ZS} {x0 : Nat} {S : ZS}  (hf : f_X8_parse_0 x0 S = some o)   : EqT S o.2 := by
  have h_S : EqT S S := eqt_0
  unfold f_X8_parse_0 at hf
  obtain ⟨q1, hf⟩ := m_chkE hf
  obtain ⟨S1, e2, hf⟩ := m_bndE hf
  have h_S1 := eqt_I h_S e2
  obtain ⟨q3, hf⟩ := m_chkE hf
  obtain ⟨b2, -, hf⟩ := m_calE hf
  obtain ⟨q4, hf⟩ := m_chkE hf
  obtain ⟨o3, ho, hf⟩ := m_calE hf
  have h_o3 := eqt_t h_S1 (fq_X6_is ho)
  clear ho
  rcases m_ifE hf with ⟨-, hf⟩ | ⟨-, hf⟩
  ·
    obtain ⟨q5, hf⟩ := m_chkE hf
    obtain ⟨b4, -, hf⟩ := m_calE hf
    obtain ⟨q6, hf⟩ := m_chkE hf
    obtain ⟨o5, ho, hf⟩ := m_calE hf
    have h_o5 := eqt_t h_o3 (fq_X6_is ho)
    clear ho
    rcases m_ifE hf with ⟨-, hf⟩ | ⟨-, hf⟩
    ·
      exact eqt_t h_o5 (fq_X8_parse_40  hf)
    ·
      exact eqt_t h_o5 (fq_X8_parse_40  hf)
  ·
    exact eqt_t h_o3 (fq_X8_parse_40  hf)
theorem fq_X8_parse {o : Int32 × ZS} {x0 : Nat} {S : ZS}  (hf : f_X8_parse x0 S = some o)   : EqT S o.2 := by
  have h_S : EqT S S := eqt_0
  unfold f_X8_parse at hf
  exact eqt_t h_S (fq_X8_parse_0  hf)
theorem fq_X8_fitsFrom_70 {o : Int32 × ZS} {S : ZS}  (hf : f_X8_fitsFrom_70 S = some o)   : EqT S o.2 := by
  have h_S : EqT S S := eqt_0
  unfold f_X8_fitsFrom_70 at hf
  obtain ⟨-, hf⟩ := m_chkE hf
  cases hf
  exact h_S
theorem fq_X8_fitsFrom_158 {o : Int32 × ZS} {t0 : Int32} {S : ZS}  (hf : f_X8_fitsFrom_158 t0 S = some o)   : EqT S o.2 := by
  have h_S : EqT S S := eqt_0
  unfold f_X8_fitsFrom_158 at hf
  obtain ⟨-, hf⟩ := m_chkE hf
  cases hf
  exact h_S
theorem fq_X8_fitsFrom_157 {o : Int32 × ZS} {S : ZS}  (hf : f_X8_fitsFrom_157 S = some o)   : EqT S o.2 := by
  have h_S : EqT S S := eqt_0
  unfold f_X8_fitsFrom_157 at hf
  exact eqt_t h_S (fq_X8_fitsFrom_158  hf)
theorem fq_X8_fitsFrom_150 {o : Int32 × ZS} {t0 : Int32} {t1 : Int32} {S : ZS}  (hf : f_X8_fitsFrom_150 t0 t1 S = some o)   : EqT S o.2 := by
  have h_S : EqT S S := eqt_0
  unfold f_X8_fitsFrom_150 at hf
  rcases m_ifE hf with ⟨-, hf⟩ | ⟨-, hf⟩
  ·
    exact eqt_t h_S (fq_X8_fitsFrom_158  hf)
  ·
    exact eqt_t h_S (fq_X8_fitsFrom_157  hf)
theorem fq_X8_fitsFrom_129 {o : Int32 × ZS} {x0 : Nat} {x1 : Nat} {x2 : Int32} {S : ZS}  (hf : f_X8_fitsFrom_129 x0 x1 x2 S = some o)   : EqT S o.2 := by
  have h_S : EqT S S := eqt_0
  unfold f_X8_fitsFrom_129 at hf
  obtain ⟨q1, hf⟩ := m_chkE hf
  obtain ⟨q2, hf⟩ := m_chkE hf
  obtain ⟨o1, ho, hf⟩ := m_calE hf
  have h_o1 := eqt_t h_S (fq_X0_becomesAnother ho)
  clear ho
  obtain ⟨q3, hf⟩ := m_chkE hf
  rcases m_ifE hf with ⟨-, hf⟩ | ⟨-, hf⟩
  ·
    exact eqt_t h_o1 (fq_X8_fitsFrom_150  hf)
  ·
    exact eqt_t h_o1 (fq_X8_fitsFrom_150  hf)
theorem fq_X8_fitsFrom_126 {o : Int32 × ZS} {x0 : Nat} {x1 : Nat} {x2 : Int32} {t0 : Int32} {t1 : Int32} {S : ZS}  (hf : f_X8_fitsFrom_126 x0 x1 x2 t0 t1 S = some o)   : EqT S o.2 := by
  have h_S : EqT S S := eqt_0
  unfold f_X8_fitsFrom_126 at hf
  rcases m_ifE hf with ⟨-, hf⟩ | ⟨-, hf⟩
  ·
    exact eqt_t h_S (fq_X8_fitsFrom_129  hf)
  ·
    exact eqt_t h_S (fq_X8_fitsFrom_157  hf)
theorem fq_X8_fitsFrom_104 {o : Int32 × ZS} {x0 : Nat} {x1 : Nat} {x2 : Int32} {x3 : Int32} {S : ZS}  (hf : f_X8_fitsFrom_104 x0 x1 x2 x3 S = some o)   : EqT S o.2 := by
  have h_S : EqT S S := eqt_0
  unfold f_X8_fitsFrom_104 at hf
  obtain ⟨q1, hf⟩ := m_chkE hf
  rcases m_ifE hf with ⟨-, hf⟩ | ⟨-, hf⟩
  ·
    exact eqt_t h_S (fq_X8_fitsFrom_129  hf)
  ·
    obtain ⟨q2, hf⟩ := m_chkE hf
    rcases m_ifE hf with ⟨-, hf⟩ | ⟨-, hf⟩
    ·
      exact eqt_t h_S (fq_X8_fitsFrom_126  hf)
    ·
      exact eqt_t h_S (fq_X8_fitsFrom_126  hf)
theorem fq_X8_fitsFrom_72 {o : Int32 × ZS} {x0 : Nat} {x1 : Nat} {x2 : Int32} {S : ZS}  (hf : f_X8_fitsFrom_72 x0 x1 x2 S = some o)   : EqT S o.2 := by
  have h_S : EqT S S := eqt_0
  unfold f_X8_fitsFrom_72 at hf
  obtain ⟨q1, hf⟩ := m_chkE hf
  obtain ⟨q2, hf⟩ := m_chkE hf
  obtain ⟨o1, ho, hf⟩ := m_calE hf
  have h_o1 := eqt_t h_S (fq_X0_takes ho)
  clear ho
  obtain ⟨q3, hf⟩ := m_chkE hf
  rcases m_ifE hf with ⟨-, hf⟩ | ⟨-, hf⟩
  ·
    rcases m_ifE hf with ⟨-, hf⟩ | ⟨-, hf⟩
    ·
      exact eqt_t h_o1 (fq_X8_fitsFrom_104  hf)
    ·
      obtain ⟨q4, hf⟩ := m_chkE hf
      rcases m_ifE hf with ⟨-, hf⟩ | ⟨-, hf⟩
      ·
        obtain ⟨-, hf⟩ := m_chkE hf
        cases hf
        exact h_o1
      ·
        exact eqt_t h_o1 (fq_X8_fitsFrom_104  hf)
  ·
    exact eqt_t h_o1 (fq_X8_fitsFrom_104  hf)
theorem fq_X8_fitsFrom_52 {o : Int32 × ZS} {x0 : Nat} {x1 : Nat} {x2 : Int32} {S : ZS}  (hf : f_X8_fitsFrom_52 x0 x1 x2 S = some o)   : EqT S o.2 := by
  have h_S : EqT S S := eqt_0
  unfold f_X8_fitsFrom_52 at hf
  obtain ⟨q1, hf⟩ := m_chkE hf
  rcases m_ifE hf with ⟨-, hf⟩ | ⟨-, hf⟩
  ·
    exact eqt_t h_S (fq_X8_fitsFrom_72  hf)
  ·
    obtain ⟨q2, hf⟩ := m_chkE hf
    obtain ⟨v1, e3, hf⟩ := m_bndE hf
    rcases m_ifE hf with ⟨-, hf⟩ | ⟨-, hf⟩
    ·
      exact eqt_t h_S (fq_X8_fitsFrom_72  hf)
    ·
      exact eqt_t h_S (fq_X8_fitsFrom_70  hf)
theorem fq_X8_fitsFrom_0 {o : Int32 × ZS} {x0 : Nat} {x1 : Nat} {x2 : Int32} {S : ZS}  (hf : f_X8_fitsFrom_0 x0 x1 x2 S = some o)   : EqT S o.2 := by
  have h_S : EqT S S := eqt_0
  unfold f_X8_fitsFrom_0 at hf
  obtain ⟨q1, hf⟩ := m_chkE hf
  obtain ⟨b1, -, hf⟩ := m_calE hf
  obtain ⟨q2, hf⟩ := m_chkE hf
  obtain ⟨-, hf⟩ := m_chkE hf
  obtain ⟨v2, e3, hf⟩ := m_bndE hf
  obtain ⟨q4, hf⟩ := m_chkE hf
  obtain ⟨q5, hf⟩ := m_chkE hf
  obtain ⟨v3, e6, hf⟩ := m_bndE hf
  obtain ⟨v4, e7, hf⟩ := m_bndE hf
  rcases m_ifE hf with ⟨-, hf⟩ | ⟨-, hf⟩
  ·
    obtain ⟨q8, hf⟩ := m_chkE hf
    obtain ⟨q9, hf⟩ := m_chkE hf
    obtain ⟨o5, ho, hf⟩ := m_calE hf
    have h_o5 := eqt_t h_S (fq_X0_castles ho)
    clear ho
    rcases m_ifE hf with ⟨-, hf⟩ | ⟨-, hf⟩
    ·
      obtain ⟨q10, hf⟩ := m_chkE hf
      rcases m_ifE hf with ⟨-, hf⟩ | ⟨-, hf⟩
      ·
        exact eqt_t h_o5 (fq_X8_fitsFrom_52  hf)
      ·
        obtain ⟨q11, hf⟩ := m_chkE hf
        obtain ⟨v6, e12, hf⟩ := m_bndE hf
        rcases m_ifE hf with ⟨-, hf⟩ | ⟨-, hf⟩
        ·
          exact eqt_t h_o5 (fq_X8_fitsFrom_52  hf)
        ·
          exact eqt_t h_o5 (fq_X8_fitsFrom_70  hf)
    ·
      exact eqt_t h_o5 (fq_X8_fitsFrom_70  hf)
  ·
    exact eqt_t h_S (fq_X8_fitsFrom_70  hf)
theorem fq_X8_fitsFrom {o : Int32 × ZS} {x0 : Nat} {x1 : Nat} {x2 : Int32} {S : ZS}  (hf : f_X8_fitsFrom x0 x1 x2 S = some o)   : EqT S o.2 := by
  have h_S : EqT S S := eqt_0
  unfold f_X8_fitsFrom at hf
  exact eqt_t h_S (fq_X8_fitsFrom_0  hf)
theorem fq_X7_isSafe_105 {o : Int32 × ZS} {t0 : Int32} {S : ZS}  (hf : f_X7_isSafe_105 t0 S = some o)   : EqT S o.2 := by
  have h_S : EqT S S := eqt_0
  unfold f_X7_isSafe_105 at hf
  obtain ⟨-, hf⟩ := m_chkE hf
  cases hf
  exact h_S
theorem fq_X7_isSafe_61 {o : Int32 × ZS} {x0 : Nat} {x1 : Nat} {x2 : Int32} {x5 : Int32} {S : ZS}  (hf : f_X7_isSafe_61 x0 x1 x2 x5 S = some o)   : EqT S o.2 := by
  have h_S : EqT S S := eqt_0
  unfold f_X7_isSafe_61 at hf
  obtain ⟨q1, hf⟩ := m_chkE hf
  obtain ⟨b1, -, hf⟩ := m_calE hf
  obtain ⟨q2, hf⟩ := m_chkE hf
  obtain ⟨o2, ho, hf⟩ := m_calE hf
  have h_o2 := eqt_t h_S (fq_X0_copyFrom ho)
  clear ho
  obtain ⟨q3, hf⟩ := m_chkE hf
  obtain ⟨b3, -, hf⟩ := m_calE hf
  obtain ⟨q4, hf⟩ := m_chkE hf
  obtain ⟨o4, ho, hf⟩ := m_calE hf
  have h_o4 := eqt_t h_o2 (fq_X0_play ho)
  clear ho
  obtain ⟨q5, hf⟩ := m_chkE hf
  obtain ⟨b5, -, hf⟩ := m_calE hf
  obtain ⟨q6, hf⟩ := m_chkE hf
  obtain ⟨b6, -, hf⟩ := m_calE hf
  obtain ⟨q7, hf⟩ := m_chkE hf
  obtain ⟨o7, ho, hf⟩ := m_calE hf
  have h_o7 := eqt_t h_o4 (fq_X0_kingOf ho)
  clear ho
  obtain ⟨v8, e8, hf⟩ := m_bndE hf
  obtain ⟨q9, hf⟩ := m_chkE hf
  obtain ⟨o9, ho, hf⟩ := m_calE hf
  have h_o9 := eqt_t h_o7 (fq_X0_attacked ho)
  clear ho
  rcases m_ifE hf with ⟨-, hf⟩ | ⟨-, hf⟩
  ·
    exact eqt_t h_o9 (fq_X7_isSafe_105  hf)
  ·
    exact eqt_t h_o9 (fq_X7_isSafe_105  hf)
theorem fq_X7_isSafe_59 {o : Int32 × ZS} {S : ZS}  (hf : f_X7_isSafe_59 S = some o)   : EqT S o.2 := by
  have h_S : EqT S S := eqt_0
  unfold f_X7_isSafe_59 at hf
  obtain ⟨-, hf⟩ := m_chkE hf
  cases hf
  exact h_S
theorem fq_X7_isSafe_0 {o : Int32 × ZS} {x0 : Nat} {x1 : Nat} {x2 : Int32} {S : ZS}  (hf : f_X7_isSafe_0 x0 x1 x2 S = some o)   : EqT S o.2 := by
  have h_S : EqT S S := eqt_0
  unfold f_X7_isSafe_0 at hf
  obtain ⟨v1, e1, hf⟩ := m_bndE hf
  obtain ⟨v2, e2, hf⟩ := m_bndE hf
  obtain ⟨v3, e3, hf⟩ := m_bndE hf
  obtain ⟨q4, hf⟩ := m_chkE hf
  obtain ⟨q5, hf⟩ := m_chkE hf
  obtain ⟨o4, ho, hf⟩ := m_calE hf
  have h_o4 := eqt_t h_S (fq_X0_castles ho)
  clear ho
  rcases m_ifE hf with ⟨-, hf⟩ | ⟨-, hf⟩
  ·
    exact eqt_t h_o4 (fq_X7_isSafe_61  hf)
  ·
    obtain ⟨v5, e6, hf⟩ := m_bndE hf
    obtain ⟨q7, hf⟩ := m_chkE hf
    obtain ⟨o6, ho, hf⟩ := m_calE hf
    have h_o6 := eqt_t h_o4 (fq_X0_attacked ho)
    clear ho
    rcases m_ifE hf with ⟨-, hf⟩ | ⟨-, hf⟩
    ·
      obtain ⟨v7, e8, hf⟩ := m_bndE hf
      obtain ⟨v8, e9, hf⟩ := m_bndE hf
      obtain ⟨v9, e10, hf⟩ := m_bndE hf
      obtain ⟨q11, hf⟩ := m_chkE hf
      obtain ⟨o10, ho, hf⟩ := m_calE hf
      have h_o10 := eqt_t h_o6 (fq_X0_attacked ho)
      clear ho
      rcases m_ifE hf with ⟨-, hf⟩ | ⟨-, hf⟩
      ·
        exact eqt_t h_o10 (fq_X7_isSafe_61  hf)
      ·
        exact eqt_t h_o10 (fq_X7_isSafe_59  hf)
    ·
      exact eqt_t h_o6 (fq_X7_isSafe_59  hf)
theorem fq_X7_isSafe {o : Int32 × ZS} {x0 : Nat} {x1 : Nat} {x2 : Int32} {S : ZS}  (hf : f_X7_isSafe x0 x1 x2 S = some o)   : EqT S o.2 := by
  have h_S : EqT S S := eqt_0
  unfold f_X7_isSafe at hf
  exact eqt_t h_S (fq_X7_isSafe_0  hf)
theorem fq_X8_gather_155 {o : Int32 × ZS} {self38 : Nat → Nat → Int32 → Int32 → ZS → Option (Int32 × ZS)} {x0 : Nat} {x1 : Nat} {x2 : Int32} {x3 : Int32} {S : ZS} (hself38 : ∀ (z0 : Nat) (z1 : Nat) (z2 : Int32) (z3 : Int32) (S : ZS) (o : Int32 × ZS), self38 z0 z1 z2 z3 S = some o → EqT S o.2) (hf : f_X8_gather_155 self38 x0 x1 x2 x3 S = some o)   : EqT S o.2 := by
  have h_S : EqT S S := eqt_0
  unfold f_X8_gather_155 at hf
  obtain ⟨v1, e1, hf⟩ := m_bndE hf
  exact eqt_t h_S (hself38 _ _ _ _ _ _ hf)
theorem fq_X8_gather_82 {o : Int32 × ZS} {self38 : Nat → Nat → Int32 → Int32 → ZS → Option (Int32 × ZS)} {x0 : Nat} {x1 : Nat} {x2 : Int32} {x3 : Int32} {t0 : Int32} {S : ZS} (hself38 : ∀ (z0 : Nat) (z1 : Nat) (z2 : Int32) (z3 : Int32) (S : ZS) (o : Int32 × ZS), self38 z0 z1 z2 z3 S = some o → EqT S o.2) (hf : f_X8_gather_82 self38 x0 x1 x2 x3 t0 S = some o)   : EqT S o.2 := by
  have h_S : EqT S S := eqt_0
  unfold f_X8_gather_82 at hf
  obtain ⟨q1, hf⟩ := m_chkE hf
  obtain ⟨v1, e2, hf⟩ := m_bndE hf
  obtain ⟨v2, e3, hf⟩ := m_bndE hf
  obtain ⟨q4, hf⟩ := m_chkE hf
  obtain ⟨v3, e5, hf⟩ := m_bndE hf
  obtain ⟨v4, e6, hf⟩ := m_bndE hf
  rcases m_ifE hf with ⟨-, hf⟩ | ⟨-, hf⟩
  ·
    exact eqt_t h_S (fq_X8_gather_155 hself38 hf)
  ·
    obtain ⟨q7, hf⟩ := m_chkE hf
    obtain ⟨q8, hf⟩ := m_chkE hf
    obtain ⟨o5, ho, hf⟩ := m_calE hf
    have h_o5 := eqt_t h_S (fq_X0_reaches ho)
    clear ho
    rcases m_ifE hf with ⟨-, hf⟩ | ⟨-, hf⟩
    ·
      exact eqt_t h_o5 (fq_X8_gather_155 hself38 hf)
    ·
      obtain ⟨q9, hf⟩ := m_chkE hf
      obtain ⟨b6, -, hf⟩ := m_calE hf
      obtain ⟨q10, hf⟩ := m_chkE hf
      obtain ⟨o7, ho, hf⟩ := m_calE hf
      have h_o7 := eqt_t h_o5 (fq_X7_isSafe ho)
      clear ho
      rcases m_ifE hf with ⟨-, hf⟩ | ⟨-, hf⟩
      ·
        exact eqt_t h_o7 (fq_X8_gather_155 hself38 hf)
      ·
        obtain ⟨q11, hf⟩ := m_chkE hf
        obtain ⟨b8, -, hf⟩ := m_calE hf
        obtain ⟨q12, hf⟩ := m_chkE hf
        obtain ⟨q13, hf⟩ := m_chkE hf
        obtain ⟨-, hf⟩ := m_chkE hf
        obtain ⟨S9, e14, hf⟩ := m_bndE hf
        have h_S9 := eqt_A h_o7 e14
        obtain ⟨q15, hf⟩ := m_chkE hf
        obtain ⟨v10, e16, hf⟩ := m_bndE hf
        obtain ⟨q17, hf⟩ := m_chkE hf
        obtain ⟨S11, e18, hf⟩ := m_bndE hf
        have h_S11 := eqt_I h_S9 e18
        exact eqt_t h_S11 (fq_X8_gather_155 hself38 hf)
theorem fq_X8_gather_72 {o : Int32 × ZS} {self38 : Nat → Nat → Int32 → Int32 → ZS → Option (Int32 × ZS)} {x0 : Nat} {x1 : Nat} {x2 : Int32} {x3 : Int32} {S : ZS} (hself38 : ∀ (z0 : Nat) (z1 : Nat) (z2 : Int32) (z3 : Int32) (S : ZS) (o : Int32 × ZS), self38 z0 z1 z2 z3 S = some o → EqT S o.2) (hf : f_X8_gather_72 self38 x0 x1 x2 x3 S = some o)   : EqT S o.2 := by
  have h_S : EqT S S := eqt_0
  unfold f_X8_gather_72 at hf
  exact eqt_t h_S (fq_X8_gather_82 hself38 hf)
theorem fq_X8_gather_38s {o : Int32 × ZS} {self38 : Nat → Nat → Int32 → Int32 → ZS → Option (Int32 × ZS)} {x0 : Nat} {x1 : Nat} {x2 : Int32} {x3 : Int32} {S : ZS} (hself38 : ∀ (z0 : Nat) (z1 : Nat) (z2 : Int32) (z3 : Int32) (S : ZS) (o : Int32 × ZS), self38 z0 z1 z2 z3 S = some o → EqT S o.2) (hf : f_X8_gather_38s self38 x0 x1 x2 x3 S = some o)   : EqT S o.2 := by
  have h_S : EqT S S := eqt_0
  unfold f_X8_gather_38s at hf
  rcases m_ifE hf with ⟨-, hf⟩ | ⟨-, hf⟩
  ·
    cases hf
    exact h_S
  ·
    obtain ⟨q1, hf⟩ := m_chkE hf
    rcases m_ifE hf with ⟨-, hf⟩ | ⟨-, hf⟩
    ·
      obtain ⟨q2, hf⟩ := m_chkE hf
      obtain ⟨o1, ho, hf⟩ := m_calE hf
      have h_o1 := eqt_t h_S (fq_X8_fitsFrom ho)
      clear ho
      exact eqt_t h_o1 (fq_X8_gather_82 hself38 hf)
    ·
      rcases m_ifE hf with ⟨-, hf⟩ | ⟨-, hf⟩
      ·
        obtain ⟨q3, hf⟩ := m_chkE hf
        obtain ⟨q4, hf⟩ := m_chkE hf
        obtain ⟨o2, ho, hf⟩ := m_calE hf
        have h_o2 := eqt_t h_S (fq_X0_castles ho)
        clear ho
        rcases m_ifE hf with ⟨-, hf⟩ | ⟨-, hf⟩
        ·
          exact eqt_t h_o2 (fq_X8_gather_72 hself38 hf)
        ·
          exact eqt_t h_o2 (fq_X8_gather_82 hself38 hf)
      ·
        exact eqt_t h_S (fq_X8_gather_72 hself38 hf)
theorem fq_X8_gather_38   (n : Nat) : ∀ (y0 : Nat) (y1 : Nat) (y2 : Int32) (y3 : Int32) (S : ZS) (o : Int32 × ZS), f_X8_gather_38  n y0 y1 y2 y3 S = some o → EqT S o.2 := by
  induction n with
  | zero => intro y0 y1 y2 y3 S o hf; cases hf
  | succ n ih => intro y0 y1 y2 y3 S o hf; exact fq_X8_gather_38s  ih hf
theorem fq_X8_gather_36 {o : Int32 × ZS} {x0 : Nat} {x1 : Nat} {x2 : Int32} {S : ZS}  (hf : f_X8_gather_36 x0 x1 x2 S = some o)   : EqT S o.2 := by
  have h_S : EqT S S := eqt_0
  unfold f_X8_gather_36 at hf
  exact eqt_t h_S (fq_X8_gather_38  _ _ _ _ _ _ _ hf)
theorem fq_X8_gather_18 {o : Int32 × ZS} {x0 : Nat} {x1 : Nat} {t0 : Int32} {S : ZS}  (hf : f_X8_gather_18 x0 x1 t0 S = some o)   : EqT S o.2 := by
  have h_S : EqT S S := eqt_0
  unfold f_X8_gather_18 at hf
  obtain ⟨q1, hf⟩ := m_chkE hf
  rcases m_ifE hf with ⟨-, hf⟩ | ⟨-, hf⟩
  ·
    exact eqt_t h_S (fq_X8_gather_36  hf)
  ·
    obtain ⟨q2, hf⟩ := m_chkE hf
    obtain ⟨v1, e3, hf⟩ := m_bndE hf
    obtain ⟨q4, hf⟩ := m_chkE hf
    obtain ⟨S2, e5, hf⟩ := m_bndE hf
    have h_S2 := eqt_I h_S e5
    exact eqt_t h_S2 (fq_X8_gather_36  hf)
theorem fq_X8_gather_0 {o : Int32 × ZS} {x0 : Nat} {x1 : Nat} {S : ZS}  (hf : f_X8_gather_0 x0 x1 S = some o)   : EqT S o.2 := by
  have h_S : EqT S S := eqt_0
  unfold f_X8_gather_0 at hf
  obtain ⟨q1, hf⟩ := m_chkE hf
  obtain ⟨S1, e2, hf⟩ := m_bndE hf
  have h_S1 := eqt_I h_S e2
  obtain ⟨q3, hf⟩ := m_chkE hf
  rcases m_ifE hf with ⟨-, hf⟩ | ⟨-, hf⟩
  ·
    exact eqt_t h_S1 (fq_X8_gather_18  hf)
  ·
    exact eqt_t h_S1 (fq_X8_gather_18  hf)
theorem fq_X8_gather {o : Int32 × ZS} {x0 : Nat} {x1 : Nat} {S : ZS}  (hf : f_X8_gather x0 x1 S = some o)   : EqT S o.2 := by
  have h_S : EqT S S := eqt_0
  unfold f_X8_gather at hf
  exact eqt_t h_S (fq_X8_gather_0  hf)
theorem fq_X7_checkSign_103 {o : Int32 × ZS} {self53 : Nat → Int32 → ZS → Option (Int32 × ZS)} {self62 : Nat → Int32 → Int32 → ZS → Option (Int32 × ZS)} {x0 : Nat} {x3 : Int32} {x4 : Int32} {S : ZS} (hself53 : ∀ (z0 : Nat) (z1 : Int32) (S : ZS) (o : Int32 × ZS), self53 z0 z1 S = some o → EqT S o.2) (hself62 : ∀ (z0 : Nat) (z1 : Int32) (z2 : Int32) (S : ZS) (o : Int32 × ZS), self62 z0 z1 z2 S = some o → EqT S o.2) (hf : f_X7_checkSign_103 self53 self62 x0 x3 x4 S = some o)   : EqT S o.2 := by
  have h_S : EqT S S := eqt_0
  unfold f_X7_checkSign_103 at hf
  obtain ⟨v1, e1, hf⟩ := m_bndE hf
  exact eqt_t h_S (hself62 _ _ _ _ _ hf)
theorem fq_X7_checkSign_62s {o : Int32 × ZS} {self53 : Nat → Int32 → ZS → Option (Int32 × ZS)} {self62 : Nat → Int32 → Int32 → ZS → Option (Int32 × ZS)} {x0 : Nat} {x3 : Int32} {x4 : Int32} {S : ZS} (hself53 : ∀ (z0 : Nat) (z1 : Int32) (S : ZS) (o : Int32 × ZS), self53 z0 z1 S = some o → EqT S o.2) (hself62 : ∀ (z0 : Nat) (z1 : Int32) (z2 : Int32) (S : ZS) (o : Int32 × ZS), self62 z0 z1 z2 S = some o → EqT S o.2) (hf : f_X7_checkSign_62s self53 self62 x0 x3 x4 S = some o)   : EqT S o.2 := by
  have h_S : EqT S S := eqt_0
  unfold f_X7_checkSign_62s at hf
  rcases m_ifE hf with ⟨-, hf⟩ | ⟨-, hf⟩
  ·
    obtain ⟨v1, e1, hf⟩ := m_bndE hf
    exact eqt_t h_S (hself53 _ _ _ _ hf)
  ·
    obtain ⟨q2, hf⟩ := m_chkE hf
    obtain ⟨b2, -, hf⟩ := m_calE hf
    obtain ⟨q3, hf⟩ := m_chkE hf
    obtain ⟨o3, ho, hf⟩ := m_calE hf
    have h_o3 := eqt_t h_S (fq_X0_reaches ho)
    clear ho
    rcases m_ifE hf with ⟨-, hf⟩ | ⟨-, hf⟩
    ·
      exact eqt_t h_o3 (fq_X7_checkSign_103 hself53 hself62 hf)
    ·
      obtain ⟨q4, hf⟩ := m_chkE hf
      obtain ⟨b4, -, hf⟩ := m_calE hf
      obtain ⟨v5, e5, hf⟩ := m_bndE hf
      obtain ⟨v6, e6, hf⟩ := m_bndE hf
      obtain ⟨q7, hf⟩ := m_chkE hf
      obtain ⟨o7, ho, hf⟩ := m_calE hf
      have h_o7 := eqt_t h_o3 (fq_X7_isSafe ho)
      clear ho
      rcases m_ifE hf with ⟨-, hf⟩ | ⟨-, hf⟩
      ·
        exact eqt_t h_o7 (fq_X7_checkSign_103 hself53 hself62 hf)
      ·
        obtain ⟨-, hf⟩ := m_chkE hf
        cases hf
        exact h_o7
theorem fq_X7_checkSign_62 {self53 : Nat → Int32 → ZS → Option (Int32 × ZS)} (hself53 : ∀ (z0 : Nat) (z1 : Int32) (S : ZS) (o : Int32 × ZS), self53 z0 z1 S = some o → EqT S o.2) (n : Nat) : ∀ (y0 : Nat) (y1 : Int32) (y2 : Int32) (S : ZS) (o : Int32 × ZS), f_X7_checkSign_62 self53 n y0 y1 y2 S = some o → EqT S o.2 := by
  induction n with
  | zero => intro y0 y1 y2 S o hf; cases hf
  | succ n ih => intro y0 y1 y2 S o hf; exact fq_X7_checkSign_62s hself53 ih hf
theorem fq_X7_checkSign_53s {o : Int32 × ZS} {self53 : Nat → Int32 → ZS → Option (Int32 × ZS)} {x0 : Nat} {x3 : Int32} {S : ZS} (hself53 : ∀ (z0 : Nat) (z1 : Int32) (S : ZS) (o : Int32 × ZS), self53 z0 z1 S = some o → EqT S o.2) (hf : f_X7_checkSign_53s self53 x0 x3 S = some o)   : EqT S o.2 := by
  have h_S : EqT S S := eqt_0
  unfold f_X7_checkSign_53s at hf
  rcases m_ifE hf with ⟨-, hf⟩ | ⟨-, hf⟩
  ·
    obtain ⟨-, hf⟩ := m_chkE hf
    cases hf
    exact h_S
  ·
    exact eqt_t h_S (fq_X7_checkSign_62 hself53 _ _ _ _ _ _ hf)
theorem fq_X7_checkSign_53   (n : Nat) : ∀ (y0 : Nat) (y1 : Int32) (S : ZS) (o : Int32 × ZS), f_X7_checkSign_53  n y0 y1 S = some o → EqT S o.2 := by
  induction n with
  | zero => intro y0 y1 S o hf; cases hf
  | succ n ih => intro y0 y1 S o hf; exact fq_X7_checkSign_53s  ih hf
theorem fq_X7_checkSign_0 {o : Int32 × ZS} {x0 : Nat} {x1 : Nat} {x2 : Int32} {S : ZS}  (hf : f_X7_checkSign_0 x0 x1 x2 S = some o)   : EqT S o.2 := by
  have h_S : EqT S S := eqt_0
  unfold f_X7_checkSign_0 at hf
  obtain ⟨q1, hf⟩ := m_chkE hf
  obtain ⟨b1, -, hf⟩ := m_calE hf
  obtain ⟨q2, hf⟩ := m_chkE hf
  obtain ⟨o2, ho, hf⟩ := m_calE hf
  have h_o2 := eqt_t h_S (fq_X0_copyFrom ho)
  clear ho
  obtain ⟨q3, hf⟩ := m_chkE hf
  obtain ⟨b3, -, hf⟩ := m_calE hf
  obtain ⟨q4, hf⟩ := m_chkE hf
  obtain ⟨o4, ho, hf⟩ := m_calE hf
  have h_o4 := eqt_t h_o2 (fq_X0_play ho)
  clear ho
  obtain ⟨q5, hf⟩ := m_chkE hf
  obtain ⟨b5, -, hf⟩ := m_calE hf
  obtain ⟨q6, hf⟩ := m_chkE hf
  obtain ⟨b6, -, hf⟩ := m_calE hf
  obtain ⟨q7, hf⟩ := m_chkE hf
  obtain ⟨b7, -, hf⟩ := m_calE hf
  obtain ⟨q8, hf⟩ := m_chkE hf
  obtain ⟨q9, hf⟩ := m_chkE hf
  obtain ⟨o8, ho, hf⟩ := m_calE hf
  have h_o8 := eqt_t h_o4 (fq_X0_kingOf ho)
  clear ho
  obtain ⟨q10, hf⟩ := m_chkE hf
  obtain ⟨b9, -, hf⟩ := m_calE hf
  obtain ⟨q11, hf⟩ := m_chkE hf
  obtain ⟨v10, e12, hf⟩ := m_bndE hf
  obtain ⟨q13, hf⟩ := m_chkE hf
  obtain ⟨o11, ho, hf⟩ := m_calE hf
  have h_o11 := eqt_t h_o8 (fq_X0_attacked ho)
  clear ho
  rcases m_ifE hf with ⟨-, hf⟩ | ⟨-, hf⟩
  ·
    obtain ⟨-, hf⟩ := m_chkE hf
    cases hf
    exact h_o11
  ·
    exact eqt_t h_o11 (fq_X7_checkSign_53  _ _ _ _ _ hf)
theorem fq_X7_checkSign {o : Int32 × ZS} {x0 : Nat} {x1 : Nat} {x2 : Int32} {S : ZS}  (hf : f_X7_checkSign x0 x1 x2 S = some o)   : EqT S o.2 := by
  have h_S : EqT S S := eqt_0
  unfold f_X7_checkSign at hf
  exact eqt_t h_S (fq_X7_checkSign_0  hf)
theorem fq_X2_shortMark_56 {o : Int32 × ZS} {t0 : Int32} {S : ZS}  (hf : f_X2_shortMark_56 t0 S = some o)   : EqT S o.2 := by
  have h_S : EqT S S := eqt_0
  unfold f_X2_shortMark_56 at hf
  cases hf
  exact h_S
theorem fq_X2_shortMark_27 {o : Int32 × ZS} {t0 : Int32} {S : ZS}  (hf : f_X2_shortMark_27 t0 S = some o)   : EqT S o.2 := by
  have h_S : EqT S S := eqt_0
  unfold f_X2_shortMark_27 at hf
  cases hf
  exact h_S
theorem fq_X2_shortMark_0 {o : Int32 × ZS} {x0 : Int32} {x1 : Int32} {S : ZS}  (hf : f_X2_shortMark_0 x0 x1 S = some o)   : EqT S o.2 := by
  have h_S : EqT S S := eqt_0
  unfold f_X2_shortMark_0 at hf
  rcases m_ifE hf with ⟨-, hf⟩ | ⟨-, hf⟩
  ·
    rcases m_ifE hf with ⟨-, hf⟩ | ⟨-, hf⟩
    ·
      exact eqt_t h_S (fq_X2_shortMark_27  hf)
    ·
      rcases m_ifE hf with ⟨-, hf⟩ | ⟨-, hf⟩
      ·
        exact eqt_t h_S (fq_X2_shortMark_27  hf)
      ·
        exact eqt_t h_S (fq_X2_shortMark_27  hf)
  ·
    rcases m_ifE hf with ⟨-, hf⟩ | ⟨-, hf⟩
    ·
      rcases m_ifE hf with ⟨-, hf⟩ | ⟨-, hf⟩
      ·
        exact eqt_t h_S (fq_X2_shortMark_56  hf)
      ·
        rcases m_ifE hf with ⟨-, hf⟩ | ⟨-, hf⟩
        ·
          exact eqt_t h_S (fq_X2_shortMark_56  hf)
        ·
          exact eqt_t h_S (fq_X2_shortMark_56  hf)
    ·
      cases hf
      exact h_S
theorem fq_X2_shortMark {o : Int32 × ZS} {x0 : Int32} {x1 : Int32} {S : ZS}  (hf : f_X2_shortMark x0 x1 S = some o)   : EqT S o.2 := by
  have h_S : EqT S S := eqt_0
  unfold f_X2_shortMark at hf
  exact eqt_t h_S (fq_X2_shortMark_0  hf)
theorem fq_X4_putMark_0 {o : Int32 × ZS} {x0 : Nat} {x1 : Int32} {S : ZS}  (hf : f_X4_putMark_0 x0 x1 S = some o)   : EqT S o.2 := by
  have h_S : EqT S S := eqt_0
  unfold f_X4_putMark_0 at hf
  obtain ⟨q1, hf⟩ := m_chkE hf
  obtain ⟨q2, hf⟩ := m_chkE hf
  obtain ⟨v1, e3, hf⟩ := m_bndE hf
  obtain ⟨v2, e4, hf⟩ := m_bndE hf
  obtain ⟨v3, e5, hf⟩ := m_bndE hf
  obtain ⟨q6, hf⟩ := m_chkE hf
  obtain ⟨S4, e7, hf⟩ := m_bndE hf
  have h_S4 := eqt_I h_S e7
  obtain ⟨q8, hf⟩ := m_chkE hf
  obtain ⟨v5, e9, hf⟩ := m_bndE hf
  obtain ⟨q10, hf⟩ := m_chkE hf
  obtain ⟨S6, e11, hf⟩ := m_bndE hf
  have h_S6 := eqt_I h_S4 e11
  cases hf
  exact h_S6
theorem fq_X4_putMark {o : Int32 × ZS} {x0 : Nat} {x1 : Int32} {S : ZS}  (hf : f_X4_putMark x0 x1 S = some o)   : EqT S o.2 := by
  have h_S : EqT S S := eqt_0
  unfold f_X4_putMark at hf
  exact eqt_t h_S (fq_X4_putMark_0  hf)
theorem fq_X2_readMark_56 {o : Int32 × ZS} {x0 : Nat} {x2 : Int32} {S : ZS}  (hf : f_X2_readMark_56 x0 x2 S = some o)   : EqT S o.2 := by
  have h_S : EqT S S := eqt_0
  unfold f_X2_readMark_56 at hf
  obtain ⟨q1, hf⟩ := m_chkE hf
  obtain ⟨o1, ho, hf⟩ := m_calE hf
  have h_o1 := eqt_t h_S (fq_X2_refuse ho)
  clear ho
  obtain ⟨-, hf⟩ := m_chkE hf
  cases hf
  exact h_o1
theorem fq_X2_readMark_0 {o : Int32 × ZS} {x0 : Nat} {x1 : Nat} {S : ZS}  (hf : f_X2_readMark_0 x0 x1 S = some o)   : EqT S o.2 := by
  have h_S : EqT S S := eqt_0
  unfold f_X2_readMark_0 at hf
  obtain ⟨q1, hf⟩ := m_chkE hf
  obtain ⟨q2, hf⟩ := m_chkE hf
  obtain ⟨v1, e3, hf⟩ := m_bndE hf
  obtain ⟨q4, hf⟩ := m_chkE hf
  obtain ⟨S2, e5, hf⟩ := m_bndE hf
  have h_S2 := eqt_I h_S e5
  obtain ⟨q6, hf⟩ := m_chkE hf
  obtain ⟨o3, ho, hf⟩ := m_calE hf
  have h_o3 := eqt_t h_S2 (fq_X2_readDigits ho)
  clear ho
  obtain ⟨q7, hf⟩ := m_chkE hf
  obtain ⟨v4, e8, hf⟩ := m_bndE hf
  rcases m_ifE hf with ⟨-, hf⟩ | ⟨-, hf⟩
  ·
    obtain ⟨q9, hf⟩ := m_chkE hf
    obtain ⟨q10, hf⟩ := m_chkE hf
    obtain ⟨o10, ho, hf⟩ := m_calE hf
    have h_o10 := eqt_t h_o3 (fq_X2_refuse ho)
    clear ho
    obtain ⟨-, hf⟩ := m_chkE hf
    cases hf
    exact h_o10
  ·
    rcases m_ifE hf with ⟨-, hf⟩ | ⟨-, hf⟩
    ·
      exact eqt_t h_o3 (fq_X2_readMark_56  hf)
    ·
      obtain ⟨q11, hf⟩ := m_chkE hf
      rcases m_ifE hf with ⟨-, hf⟩ | ⟨-, hf⟩
      ·
        obtain ⟨q12, hf⟩ := m_chkE hf
        obtain ⟨b5, -, hf⟩ := m_calE hf
        obtain ⟨q13, hf⟩ := m_chkE hf
        obtain ⟨q14, hf⟩ := m_chkE hf
        obtain ⟨o6, ho, hf⟩ := m_calE hf
        have h_o6 := eqt_t h_o3 (fq_X6_at ho)
        clear ho
        obtain ⟨o7, ho, hf⟩ := m_calE hf
        have h_o7 := eqt_t h_o6 (fq_X11_isDigit ho)
        clear ho
        rcases m_ifE hf with ⟨-, hf⟩ | ⟨-, hf⟩
        ·
          obtain ⟨q15, hf⟩ := m_chkE hf
          obtain ⟨o8, ho, hf⟩ := m_calE hf
          have h_o8 := eqt_t h_o7 (fq_X4_putMark ho)
          clear ho
          obtain ⟨-, hf⟩ := m_chkE hf
          cases hf
          exact h_o8
        ·
          obtain ⟨q16, hf⟩ := m_chkE hf
          obtain ⟨q17, hf⟩ := m_chkE hf
          obtain ⟨o9, ho, hf⟩ := m_calE hf
          have h_o9 := eqt_t h_o7 (fq_X2_refuse ho)
          clear ho
          obtain ⟨-, hf⟩ := m_chkE hf
          cases hf
          exact h_o9
      ·
        exact eqt_t h_o3 (fq_X2_readMark_56  hf)
theorem fq_X2_readMark {o : Int32 × ZS} {x0 : Nat} {x1 : Nat} {S : ZS}  (hf : f_X2_readMark x0 x1 S = some o)   : EqT S o.2 := by
  have h_S : EqT S S := eqt_0
  unfold f_X2_readMark at hf
  exact eqt_t h_S (fq_X2_readMark_0  hf)
theorem fq_X2_readMarks_113 {o : Int32 × ZS} {x3 : Int32} {S : ZS}  (hf : f_X2_readMarks_113 x3 S = some o)   : EqT S o.2 := by
  have h_S : EqT S S := eqt_0
  unfold f_X2_readMarks_113 at hf
  obtain ⟨-, hf⟩ := m_chkE hf
  cases hf
  exact h_S
theorem fq_X2_readMarks_69s {o : Int32 × ZS} {self69 : Nat → Nat → Int32 → Int32 → ZS → Option (Int32 × ZS)} {x0 : Nat} {x1 : Nat} {x3 : Int32} {x4 : Int32} {S : ZS} (hself69 : ∀ (z0 : Nat) (z1 : Nat) (z2 : Int32) (z3 : Int32) (S : ZS) (o : Int32 × ZS), self69 z0 z1 z2 z3 S = some o → EqT S o.2) (hf : f_X2_readMarks_69s self69 x0 x1 x3 x4 S = some o)   : EqT S o.2 := by
  have h_S : EqT S S := eqt_0
  unfold f_X2_readMarks_69s at hf
  rcases m_ifE hf with ⟨-, hf⟩ | ⟨-, hf⟩
  ·
    exact eqt_t h_S (fq_X2_readMarks_113  hf)
  ·
    rcases m_ifE hf with ⟨-, hf⟩ | ⟨-, hf⟩
    ·
      exact eqt_t h_S (fq_X2_readMarks_113  hf)
    ·
      obtain ⟨q1, hf⟩ := m_chkE hf
      obtain ⟨b1, -, hf⟩ := m_calE hf
      obtain ⟨q2, hf⟩ := m_chkE hf
      obtain ⟨q3, hf⟩ := m_chkE hf
      obtain ⟨o2, ho, hf⟩ := m_calE hf
      have h_o2 := eqt_t h_S (fq_X6_at ho)
      clear ho
      rcases m_ifE hf with ⟨-, hf⟩ | ⟨-, hf⟩
      ·
        obtain ⟨q4, hf⟩ := m_chkE hf
        obtain ⟨o3, ho, hf⟩ := m_calE hf
        have h_o3 := eqt_t h_o2 (fq_X2_readMark ho)
        clear ho
        obtain ⟨q5, hf⟩ := m_chkE hf
        obtain ⟨o4, ho, hf⟩ := m_calE hf
        have h_o4 := eqt_t h_o3 (fq_X2_skipBlanks ho)
        clear ho
        obtain ⟨v5, e6, hf⟩ := m_bndE hf
        exact eqt_t h_o4 (hself69 _ _ _ _ _ _ hf)
      ·
        exact eqt_t h_o2 (fq_X2_readMarks_113  hf)
theorem fq_X2_readMarks_69   (n : Nat) : ∀ (y0 : Nat) (y1 : Nat) (y2 : Int32) (y3 : Int32) (S : ZS) (o : Int32 × ZS), f_X2_readMarks_69  n y0 y1 y2 y3 S = some o → EqT S o.2 := by
  induction n with
  | zero => intro y0 y1 y2 y3 S o hf; cases hf
  | succ n ih => intro y0 y1 y2 y3 S o hf; exact fq_X2_readMarks_69s  ih hf
theorem fq_X2_readMarks_64 {o : Int32 × ZS} {x0 : Nat} {x1 : Nat} {S : ZS}  (hf : f_X2_readMarks_64 x0 x1 S = some o)   : EqT S o.2 := by
  have h_S : EqT S S := eqt_0
  unfold f_X2_readMarks_64 at hf
  exact eqt_t h_S (fq_X2_readMarks_69  _ _ _ _ _ _ _ hf)
theorem fq_X2_readMarks_56 {o : Int32 × ZS} {x0 : Nat} {x1 : Nat} {t0 : Int32} {t1 : Int32} {t2 : Nat} {S : ZS}  (hf : f_X2_readMarks_56 x0 x1 t0 t1 t2 S = some o)   : EqT S o.2 := by
  have h_S : EqT S S := eqt_0
  unfold f_X2_readMarks_56 at hf
  obtain ⟨v1, e1, hf⟩ := m_bndE hf
  obtain ⟨q2, hf⟩ := m_chkE hf
  obtain ⟨S2, e3, hf⟩ := m_bndE hf
  have h_S2 := eqt_I h_S e3
  obtain ⟨q4, hf⟩ := m_chkE hf
  obtain ⟨o3, ho, hf⟩ := m_calE hf
  have h_o3 := eqt_t h_S2 (fq_X2_skipBlanks ho)
  clear ho
  exact eqt_t h_o3 (fq_X2_readMarks_64  hf)
theorem fq_X2_readMarks_0 {o : Int32 × ZS} {x0 : Nat} {x1 : Nat} {S : ZS}  (hf : f_X2_readMarks_0 x0 x1 S = some o)   : EqT S o.2 := by
  have h_S : EqT S S := eqt_0
  unfold f_X2_readMarks_0 at hf
  obtain ⟨q1, hf⟩ := m_chkE hf
  obtain ⟨o1, ho, hf⟩ := m_calE hf
  have h_o1 := eqt_t h_S (fq_X2_skipBlanks ho)
  clear ho
  obtain ⟨q2, hf⟩ := m_chkE hf
  obtain ⟨b2, -, hf⟩ := m_calE hf
  obtain ⟨q3, hf⟩ := m_chkE hf
  obtain ⟨q4, hf⟩ := m_chkE hf
  obtain ⟨o3, ho, hf⟩ := m_calE hf
  have h_o3 := eqt_t h_o1 (fq_X6_at ho)
  clear ho
  obtain ⟨q5, hf⟩ := m_chkE hf
  obtain ⟨b4, -, hf⟩ := m_calE hf
  obtain ⟨q6, hf⟩ := m_chkE hf
  obtain ⟨v5, e7, hf⟩ := m_bndE hf
  obtain ⟨q8, hf⟩ := m_chkE hf
  obtain ⟨o6, ho, hf⟩ := m_calE hf
  have h_o6 := eqt_t h_o3 (fq_X6_at ho)
  clear ho
  obtain ⟨o7, ho, hf⟩ := m_calE hf
  have h_o7 := eqt_t h_o6 (fq_X2_shortMark ho)
  clear ho
  rcases m_ifE hf with ⟨-, hf⟩ | ⟨-, hf⟩
  ·
    exact eqt_t h_o7 (fq_X2_readMarks_64  hf)
  ·
    obtain ⟨q9, hf⟩ := m_chkE hf
    obtain ⟨o8, ho, hf⟩ := m_calE hf
    have h_o8 := eqt_t h_o7 (fq_X4_putMark ho)
    clear ho
    obtain ⟨q10, hf⟩ := m_chkE hf
    rcases m_ifE hf with ⟨-, hf⟩ | ⟨-, hf⟩
    ·
      exact eqt_t h_o8 (fq_X2_readMarks_56  hf)
    ·
      exact eqt_t h_o8 (fq_X2_readMarks_56  hf)
theorem fq_X2_readMarks {o : Int32 × ZS} {x0 : Nat} {x1 : Nat} {S : ZS}  (hf : f_X2_readMarks x0 x1 S = some o)   : EqT S o.2 := by
  have h_S : EqT S S := eqt_0
  unfold f_X2_readMarks at hf
  exact eqt_t h_S (fq_X2_readMarks_0  hf)
theorem fq_X11_letterOf_25 {o : Int32 × ZS} {t0 : Int32} {S : ZS}  (hf : f_X11_letterOf_25 t0 S = some o)   : EqT S o.2 := by
  have h_S : EqT S S := eqt_0
  unfold f_X11_letterOf_25 at hf
  obtain ⟨-, hf⟩ := m_chkE hf
  cases hf
  exact h_S
theorem fq_X11_letterOf_23 {o : Int32 × ZS} {S : ZS}  (hf : f_X11_letterOf_23 S = some o)   : EqT S o.2 := by
  have h_S : EqT S S := eqt_0
  unfold f_X11_letterOf_23 at hf
  exact eqt_t h_S (fq_X11_letterOf_25  hf)
theorem fq_X11_letterOf_0 {o : Int32 × ZS} {x0 : Int32} {S : ZS}  (hf : f_X11_letterOf_0 x0 S = some o)   : EqT S o.2 := by
  have h_S : EqT S S := eqt_0
  unfold f_X11_letterOf_0 at hf
  rcases m_ifE hf with ⟨-, hf⟩ | ⟨-, hf⟩
  ·
    exact eqt_t h_S (fq_X11_letterOf_23  hf)
  ·
    rcases m_ifE hf with ⟨-, hf⟩ | ⟨-, hf⟩
    ·
      exact eqt_t h_S (fq_X11_letterOf_23  hf)
    ·
      obtain ⟨v1, e1, hf⟩ := m_bndE hf
      obtain ⟨-, hf⟩ := m_chkE hf
      obtain ⟨o2, ho, hf⟩ := m_calE hf
      have h_o2 := eqt_t h_S (fq_J0_charAt_5068e ho)
      clear ho
      exact eqt_t h_o2 (fq_X11_letterOf_25  hf)
theorem fq_X11_letterOf {o : Int32 × ZS} {x0 : Int32} {S : ZS}  (hf : f_X11_letterOf x0 S = some o)   : EqT S o.2 := by
  have h_S : EqT S S := eqt_0
  unfold f_X11_letterOf at hf
  exact eqt_t h_S (fq_X11_letterOf_0  hf)
theorem fq_X11_fileLetter_0 {o : Int32 × ZS} {x0 : Int32} {S : ZS}  (hf : f_X11_fileLetter_0 x0 S = some o)   : EqT S o.2 := by
  have h_S : EqT S S := eqt_0
  unfold f_X11_fileLetter_0 at hf
  obtain ⟨v1, e1, hf⟩ := m_bndE hf
  obtain ⟨v2, e2, hf⟩ := m_bndE hf
  obtain ⟨v3, e3, hf⟩ := m_bndE hf
  obtain ⟨-, hf⟩ := m_chkE hf
  cases hf
  exact h_S
theorem fq_X11_fileLetter {o : Int32 × ZS} {x0 : Int32} {S : ZS}  (hf : f_X11_fileLetter x0 S = some o)   : EqT S o.2 := by
  have h_S : EqT S S := eqt_0
  unfold f_X11_fileLetter at hf
  exact eqt_t h_S (fq_X11_fileLetter_0  hf)
theorem fq_X11_rankDigit_0 {o : Int32 × ZS} {x0 : Int32} {S : ZS}  (hf : f_X11_rankDigit_0 x0 S = some o)   : EqT S o.2 := by
  have h_S : EqT S S := eqt_0
  unfold f_X11_rankDigit_0 at hf
  obtain ⟨v1, e1, hf⟩ := m_bndE hf
  obtain ⟨v2, e2, hf⟩ := m_bndE hf
  obtain ⟨v3, e3, hf⟩ := m_bndE hf
  obtain ⟨-, hf⟩ := m_chkE hf
  cases hf
  exact h_S
theorem fq_X11_rankDigit {o : Int32 × ZS} {x0 : Int32} {S : ZS}  (hf : f_X11_rankDigit x0 S = some o)   : EqT S o.2 := by
  have h_S : EqT S S := eqt_0
  unfold f_X11_rankDigit at hf
  exact eqt_t h_S (fq_X11_rankDigit_0  hf)
theorem fq_X4_markAt_0 {o : Int32 × ZS} {x0 : Nat} {x1 : Int32} {S : ZS}  (hf : f_X4_markAt_0 x0 x1 S = some o)   : EqT S o.2 := by
  have h_S : EqT S S := eqt_0
  unfold f_X4_markAt_0 at hf
  obtain ⟨q1, hf⟩ := m_chkE hf
  obtain ⟨v1, e2, hf⟩ := m_bndE hf
  obtain ⟨v2, e3, hf⟩ := m_bndE hf
  obtain ⟨v3, e4, hf⟩ := m_bndE hf
  cases hf
  exact h_S
theorem fq_X4_markAt {o : Int32 × ZS} {x0 : Nat} {x1 : Int32} {S : ZS}  (hf : f_X4_markAt x0 x1 S = some o)   : EqT S o.2 := by
  have h_S : EqT S S := eqt_0
  unfold f_X4_markAt at hf
  exact eqt_t h_S (fq_X4_markAt_0  hf)
theorem fq_X7_isLegal_47 {o : Int32 × ZS} {S : ZS}  (hf : f_X7_isLegal_47 S = some o)   : EqT S o.2 := by
  have h_S : EqT S S := eqt_0
  unfold f_X7_isLegal_47 at hf
  obtain ⟨-, hf⟩ := m_chkE hf
  cases hf
  exact h_S
theorem fq_X7_isLegal_83 {o : Int32 × ZS} {t0 : Int32} {S : ZS}  (hf : f_X7_isLegal_83 t0 S = some o)   : EqT S o.2 := by
  have h_S : EqT S S := eqt_0
  unfold f_X7_isLegal_83 at hf
  obtain ⟨-, hf⟩ := m_chkE hf
  cases hf
  exact h_S
theorem fq_X7_isLegal_82 {o : Int32 × ZS} {S : ZS}  (hf : f_X7_isLegal_82 S = some o)   : EqT S o.2 := by
  have h_S : EqT S S := eqt_0
  unfold f_X7_isLegal_82 at hf
  exact eqt_t h_S (fq_X7_isLegal_83  hf)
theorem fq_X7_isLegal_66 {o : Int32 × ZS} {x0 : Nat} {x1 : Nat} {x2 : Int32} {t0 : Int32} {t1 : Int32} {S : ZS}  (hf : f_X7_isLegal_66 x0 x1 x2 t0 t1 S = some o)   : EqT S o.2 := by
  have h_S : EqT S S := eqt_0
  unfold f_X7_isLegal_66 at hf
  rcases m_ifE hf with ⟨-, hf⟩ | ⟨-, hf⟩
  ·
    obtain ⟨q1, hf⟩ := m_chkE hf
    obtain ⟨o1, ho, hf⟩ := m_calE hf
    have h_o1 := eqt_t h_S (fq_X7_isSafe ho)
    clear ho
    rcases m_ifE hf with ⟨-, hf⟩ | ⟨-, hf⟩
    ·
      exact eqt_t h_o1 (fq_X7_isLegal_82  hf)
    ·
      exact eqt_t h_o1 (fq_X7_isLegal_83  hf)
  ·
    exact eqt_t h_S (fq_X7_isLegal_82  hf)
theorem fq_X7_isLegal_0 {o : Int32 × ZS} {x0 : Nat} {x1 : Nat} {x2 : Int32} {S : ZS}  (hf : f_X7_isLegal_0 x0 x1 x2 S = some o)   : EqT S o.2 := by
  have h_S : EqT S S := eqt_0
  unfold f_X7_isLegal_0 at hf
  obtain ⟨v1, e1, hf⟩ := m_bndE hf
  obtain ⟨v2, e2, hf⟩ := m_bndE hf
  obtain ⟨v3, e3, hf⟩ := m_bndE hf
  obtain ⟨v4, e4, hf⟩ := m_bndE hf
  rcases m_ifE hf with ⟨-, hf⟩ | ⟨-, hf⟩
  ·
    exact eqt_t h_S (fq_X7_isLegal_47  hf)
  ·
    rcases m_ifE hf with ⟨-, hf⟩ | ⟨-, hf⟩
    ·
      exact eqt_t h_S (fq_X7_isLegal_47  hf)
    ·
      rcases m_ifE hf with ⟨-, hf⟩ | ⟨-, hf⟩
      ·
        exact eqt_t h_S (fq_X7_isLegal_47  hf)
      ·
        obtain ⟨q5, hf⟩ := m_chkE hf
        obtain ⟨o5, ho, hf⟩ := m_calE hf
        have h_o5 := eqt_t h_S (fq_X0_reaches ho)
        clear ho
        rcases m_ifE hf with ⟨-, hf⟩ | ⟨-, hf⟩
        ·
          exact eqt_t h_o5 (fq_X7_isLegal_47  hf)
        ·
          obtain ⟨q6, hf⟩ := m_chkE hf
          obtain ⟨o6, ho, hf⟩ := m_calE hf
          have h_o6 := eqt_t h_o5 (fq_X0_becomesAnother ho)
          clear ho
          rcases m_ifE hf with ⟨-, hf⟩ | ⟨-, hf⟩
          ·
            exact eqt_t h_o6 (fq_X7_isLegal_66  hf)
          ·
            exact eqt_t h_o6 (fq_X7_isLegal_66  hf)
theorem fq_X7_isLegal {o : Int32 × ZS} {x0 : Nat} {x1 : Nat} {x2 : Int32} {S : ZS}  (hf : f_X7_isLegal x0 x1 x2 S = some o)   : EqT S o.2 := by
  have h_S : EqT S S := eqt_0
  unfold f_X7_isLegal at hf
  exact eqt_t h_S (fq_X7_isLegal_0  hf)
theorem fq_X7_legalMove_110 {o : Int32 × ZS} {self11 : Nat → Nat → Int32 → Int32 → ZS → Option (Int32 × ZS)} {self21 : Nat → Nat → Int32 → Int32 → Int32 → ZS → Option (Int32 × ZS)} {x0 : Nat} {x1 : Nat} {x3 : Int32} {x4 : Int32} {x5 : Int32} {S : ZS} (hself11 : ∀ (z0 : Nat) (z1 : Nat) (z2 : Int32) (z3 : Int32) (S : ZS) (o : Int32 × ZS), self11 z0 z1 z2 z3 S = some o → EqT S o.2) (hself21 : ∀ (z0 : Nat) (z1 : Nat) (z2 : Int32) (z3 : Int32) (z4 : Int32) (S : ZS) (o : Int32 × ZS), self21 z0 z1 z2 z3 z4 S = some o → EqT S o.2) (hf : f_X7_legalMove_110 self11 self21 x0 x1 x3 x4 x5 S = some o)   : EqT S o.2 := by
  have h_S : EqT S S := eqt_0
  unfold f_X7_legalMove_110 at hf
  obtain ⟨v1, e1, hf⟩ := m_bndE hf
  exact eqt_t h_S (hself21 _ _ _ _ _ _ _ hf)
theorem fq_X7_legalMove_104 {o : Int32 × ZS} {t0 : Int32} {S : ZS}  (hf : f_X7_legalMove_104 t0 S = some o)   : EqT S o.2 := by
  have h_S : EqT S S := eqt_0
  unfold f_X7_legalMove_104 at hf
  cases hf
  exact h_S
theorem fq_X7_legalMove_75 {o : Int32 × ZS} {self11 : Nat → Nat → Int32 → Int32 → ZS → Option (Int32 × ZS)} {self21 : Nat → Nat → Int32 → Int32 → Int32 → ZS → Option (Int32 × ZS)} {x0 : Nat} {x1 : Nat} {x3 : Int32} {x4 : Int32} {x5 : Int32} {x6 : Int32} {t0 : Int32} {S : ZS} (hself11 : ∀ (z0 : Nat) (z1 : Nat) (z2 : Int32) (z3 : Int32) (S : ZS) (o : Int32 × ZS), self11 z0 z1 z2 z3 S = some o → EqT S o.2) (hself21 : ∀ (z0 : Nat) (z1 : Nat) (z2 : Int32) (z3 : Int32) (z4 : Int32) (S : ZS) (o : Int32 × ZS), self21 z0 z1 z2 z3 z4 S = some o → EqT S o.2) (hf : f_X7_legalMove_75 self11 self21 x0 x1 x3 x4 x5 x6 t0 S = some o)   : EqT S o.2 := by
  have h_S : EqT S S := eqt_0
  unfold f_X7_legalMove_75 at hf
  rcases m_ifE hf with ⟨-, hf⟩ | ⟨-, hf⟩
  ·
    obtain ⟨v1, e1, hf⟩ := m_bndE hf
    exact eqt_t h_S (fq_X7_legalMove_110 hself11 hself21 hf)
  ·
    rcases m_ifE hf with ⟨-, hf⟩ | ⟨-, hf⟩
    ·
      exact eqt_t h_S (fq_X7_legalMove_104  hf)
    ·
      obtain ⟨v2, e2, hf⟩ := m_bndE hf
      obtain ⟨v3, e3, hf⟩ := m_bndE hf
      obtain ⟨v4, e4, hf⟩ := m_bndE hf
      exact eqt_t h_S (fq_X7_legalMove_104  hf)
theorem fq_X7_legalMove_21s {o : Int32 × ZS} {self11 : Nat → Nat → Int32 → Int32 → ZS → Option (Int32 × ZS)} {self21 : Nat → Nat → Int32 → Int32 → Int32 → ZS → Option (Int32 × ZS)} {x0 : Nat} {x1 : Nat} {x3 : Int32} {x4 : Int32} {x5 : Int32} {S : ZS} (hself11 : ∀ (z0 : Nat) (z1 : Nat) (z2 : Int32) (z3 : Int32) (S : ZS) (o : Int32 × ZS), self11 z0 z1 z2 z3 S = some o → EqT S o.2) (hself21 : ∀ (z0 : Nat) (z1 : Nat) (z2 : Int32) (z3 : Int32) (z4 : Int32) (S : ZS) (o : Int32 × ZS), self21 z0 z1 z2 z3 z4 S = some o → EqT S o.2) (hf : f_X7_legalMove_21s self11 self21 x0 x1 x3 x4 x5 S = some o)   : EqT S o.2 := by
  have h_S : EqT S S := eqt_0
  unfold f_X7_legalMove_21s at hf
  rcases m_ifE hf with ⟨-, hf⟩ | ⟨-, hf⟩
  ·
    obtain ⟨v1, e1, hf⟩ := m_bndE hf
    exact eqt_t h_S (hself11 _ _ _ _ _ _ hf)
  ·
    obtain ⟨v2, e2, hf⟩ := m_bndE hf
    obtain ⟨v3, e3, hf⟩ := m_bndE hf
    obtain ⟨q4, hf⟩ := m_chkE hf
    obtain ⟨o4, ho, hf⟩ := m_calE hf
    have h_o4 := eqt_t h_S (fq_X0_reaches ho)
    clear ho
    rcases m_ifE hf with ⟨-, hf⟩ | ⟨-, hf⟩
    ·
      exact eqt_t h_o4 (fq_X7_legalMove_110 hself11 hself21 hf)
    ·
      obtain ⟨q5, hf⟩ := m_chkE hf
      obtain ⟨o5, ho, hf⟩ := m_calE hf
      have h_o5 := eqt_t h_o4 (fq_X7_isSafe ho)
      clear ho
      rcases m_ifE hf with ⟨-, hf⟩ | ⟨-, hf⟩
      ·
        exact eqt_t h_o5 (fq_X7_legalMove_110 hself11 hself21 hf)
      ·
        obtain ⟨q6, hf⟩ := m_chkE hf
        obtain ⟨o6, ho, hf⟩ := m_calE hf
        have h_o6 := eqt_t h_o5 (fq_X0_becomesAnother ho)
        clear ho
        rcases m_ifE hf with ⟨-, hf⟩ | ⟨-, hf⟩
        ·
          exact eqt_t h_o6 (fq_X7_legalMove_75 hself11 hself21 hf)
        ·
          exact eqt_t h_o6 (fq_X7_legalMove_75 hself11 hself21 hf)
theorem fq_X7_legalMove_21 {self11 : Nat → Nat → Int32 → Int32 → ZS → Option (Int32 × ZS)} (hself11 : ∀ (z0 : Nat) (z1 : Nat) (z2 : Int32) (z3 : Int32) (S : ZS) (o : Int32 × ZS), self11 z0 z1 z2 z3 S = some o → EqT S o.2) (n : Nat) : ∀ (y0 : Nat) (y1 : Nat) (y2 : Int32) (y3 : Int32) (y4 : Int32) (S : ZS) (o : Int32 × ZS), f_X7_legalMove_21 self11 n y0 y1 y2 y3 y4 S = some o → EqT S o.2 := by
  induction n with
  | zero => intro y0 y1 y2 y3 y4 S o hf; cases hf
  | succ n ih => intro y0 y1 y2 y3 y4 S o hf; exact fq_X7_legalMove_21s hself11 ih hf
theorem fq_X7_legalMove_11s {o : Int32 × ZS} {self11 : Nat → Nat → Int32 → Int32 → ZS → Option (Int32 × ZS)} {x0 : Nat} {x1 : Nat} {x3 : Int32} {x4 : Int32} {S : ZS} (hself11 : ∀ (z0 : Nat) (z1 : Nat) (z2 : Int32) (z3 : Int32) (S : ZS) (o : Int32 × ZS), self11 z0 z1 z2 z3 S = some o → EqT S o.2) (hf : f_X7_legalMove_11s self11 x0 x1 x3 x4 S = some o)   : EqT S o.2 := by
  have h_S : EqT S S := eqt_0
  unfold f_X7_legalMove_11s at hf
  rcases m_ifE hf with ⟨-, hf⟩ | ⟨-, hf⟩
  ·
    cases hf
    exact h_S
  ·
    exact eqt_t h_S (fq_X7_legalMove_21 hself11 _ _ _ _ _ _ _ _ hf)
theorem fq_X7_legalMove_11   (n : Nat) : ∀ (y0 : Nat) (y1 : Nat) (y2 : Int32) (y3 : Int32) (S : ZS) (o : Int32 × ZS), f_X7_legalMove_11  n y0 y1 y2 y3 S = some o → EqT S o.2 := by
  induction n with
  | zero => intro y0 y1 y2 y3 S o hf; cases hf
  | succ n ih => intro y0 y1 y2 y3 S o hf; exact fq_X7_legalMove_11s  ih hf
theorem fq_X7_legalMove_0 {o : Int32 × ZS} {x0 : Nat} {x1 : Nat} {x2 : Int32} {S : ZS}  (hf : f_X7_legalMove_0 x0 x1 x2 S = some o)   : EqT S o.2 := by
  have h_S : EqT S S := eqt_0
  unfold f_X7_legalMove_0 at hf
  rcases m_ifE hf with ⟨-, hf⟩ | ⟨-, hf⟩
  ·
    exact eqt_t h_S (fq_X7_legalMove_11  _ _ _ _ _ _ _ hf)
  ·
    cases hf
    exact h_S
theorem fq_X7_legalMove {o : Int32 × ZS} {x0 : Nat} {x1 : Nat} {x2 : Int32} {S : ZS}  (hf : f_X7_legalMove x0 x1 x2 S = some o)   : EqT S o.2 := by
  have h_S : EqT S S := eqt_0
  unfold f_X7_legalMove at hf
  exact eqt_t h_S (fq_X7_legalMove_0  hf)
theorem fq_X11_byteOf_0 {o : Int32 × ZS} {x0 : Int64} {x2 : Int32} {S : ZS}  (hf : f_X11_byteOf_0 x0 x2 S = some o)   : EqT S o.2 := by
  have h_S : EqT S S := eqt_0
  unfold f_X11_byteOf_0 at hf
  obtain ⟨v1, e1, hf⟩ := m_bndE hf
  obtain ⟨v2, e2, hf⟩ := m_bndE hf
  obtain ⟨v3, e3, hf⟩ := m_bndE hf
  obtain ⟨v4, e4, hf⟩ := m_bndE hf
  obtain ⟨v5, e5, hf⟩ := m_bndE hf
  obtain ⟨-, hf⟩ := m_chkE hf
  cases hf
  exact h_S
theorem fq_X11_byteOf {o : Int32 × ZS} {x0 : Int64} {x2 : Int32} {S : ZS}  (hf : f_X11_byteOf x0 x2 S = some o)   : EqT S o.2 := by
  have h_S : EqT S S := eqt_0
  unfold f_X11_byteOf at hf
  exact eqt_t h_S (fq_X11_byteOf_0  hf)
theorem fq_X11_cut_15 {o : Int32 × ZS} {S : ZS}  (hf : f_X11_cut_15 S = some o)   : EqT S o.2 := by
  have h_S : EqT S S := eqt_0
  unfold f_X11_cut_15 at hf
  obtain ⟨-, hf⟩ := m_chkE hf
  cases hf
  exact h_S
theorem fq_X11_cut_0 {o : Int32 × ZS} {x0 : Nat} {x1 : Int32} {S : ZS}  (hf : f_X11_cut_0 x0 x1 S = some o)   : EqT S o.2 := by
  have h_S : EqT S S := eqt_0
  unfold f_X11_cut_0 at hf
  rcases m_ifE hf with ⟨-, hf⟩ | ⟨-, hf⟩
  ·
    exact eqt_t h_S (fq_X11_cut_15  hf)
  ·
    obtain ⟨q1, hf⟩ := m_chkE hf
    obtain ⟨b1, -, hf⟩ := m_calE hf
    obtain ⟨q2, hf⟩ := m_chkE hf
    obtain ⟨o2, ho, hf⟩ := m_calE hf
    have h_o2 := eqt_t h_S (fq_X6_size ho)
    clear ho
    rcases m_ifE hf with ⟨-, hf⟩ | ⟨-, hf⟩
    ·
      obtain ⟨q3, hf⟩ := m_chkE hf
      obtain ⟨b3, -, hf⟩ := m_calE hf
      obtain ⟨q4, hf⟩ := m_chkE hf
      obtain ⟨o4, ho, hf⟩ := m_calE hf
      have h_o4 := eqt_t h_o2 (fq_X6_keep ho)
      clear ho
      obtain ⟨-, hf⟩ := m_chkE hf
      cases hf
      exact h_o4
    ·
      exact eqt_t h_o2 (fq_X11_cut_15  hf)
theorem fq_X11_cut {o : Int32 × ZS} {x0 : Nat} {x1 : Int32} {S : ZS}  (hf : f_X11_cut x0 x1 S = some o)   : EqT S o.2 := by
  have h_S : EqT S S := eqt_0
  unfold f_X11_cut at hf
  exact eqt_t h_S (fq_X11_cut_0  hf)
theorem fq_X11_out_0 {o : Int32 × ZS} {x0 : Nat} {x1 : Int32} {S : ZS}  (hf : f_X11_out_0 x0 x1 S = some o)   : EqT S o.2 := by
  have h_S : EqT S S := eqt_0
  unfold f_X11_out_0 at hf
  obtain ⟨q1, hf⟩ := m_chkE hf
  obtain ⟨b1, -, hf⟩ := m_calE hf
  obtain ⟨q2, hf⟩ := m_chkE hf
  obtain ⟨o2, ho, hf⟩ := m_calE hf
  have h_o2 := eqt_t h_S (fq_X6_at ho)
  clear ho
  cases hf
  exact h_o2
theorem fq_X11_out {o : Int32 × ZS} {x0 : Nat} {x1 : Int32} {S : ZS}  (hf : f_X11_out x0 x1 S = some o)   : EqT S o.2 := by
  have h_S : EqT S S := eqt_0
  unfold f_X11_out at hf
  exact eqt_t h_S (fq_X11_out_0  hf)
theorem fq_X11_nodes_0 {o : Int32 × ZS} {x0 : Nat} {S : ZS}  (hf : f_X11_nodes_0 x0 S = some o)   : EqT S o.2 := by
  have h_S : EqT S S := eqt_0
  unfold f_X11_nodes_0 at hf
  obtain ⟨q1, hf⟩ := m_chkE hf
  obtain ⟨b1, -, hf⟩ := m_calE hf
  obtain ⟨q2, hf⟩ := m_chkE hf
  cases hf
  exact h_S
theorem fq_X11_nodes {o : Int32 × ZS} {x0 : Nat} {S : ZS}  (hf : f_X11_nodes x0 S = some o)   : EqT S o.2 := by
  have h_S : EqT S S := eqt_0
  unfold f_X11_nodes at hf
  exact eqt_t h_S (fq_X11_nodes_0  hf)
theorem fq_X11_here_0 {o : Int32 × ZS} {x0 : Nat} {S : ZS}  (hf : f_X11_here_0 x0 S = some o)   : EqT S o.2 := by
  have h_S : EqT S S := eqt_0
  unfold f_X11_here_0 at hf
  obtain ⟨q1, hf⟩ := m_chkE hf
  cases hf
  exact h_S
theorem fq_X11_here {o : Int32 × ZS} {x0 : Nat} {S : ZS}  (hf : f_X11_here x0 S = some o)   : EqT S o.2 := by
  have h_S : EqT S S := eqt_0
  unfold f_X11_here at hf
  exact eqt_t h_S (fq_X11_here_0  hf)
theorem fq_X11_move_0 {o : Int32 × ZS} {x0 : Nat} {x1 : Int32} {S : ZS}  (hf : f_X11_move_0 x0 x1 S = some o)   : EqT S o.2 := by
  have h_S : EqT S S := eqt_0
  unfold f_X11_move_0 at hf
  obtain ⟨q1, hf⟩ := m_chkE hf
  obtain ⟨b1, -, hf⟩ := m_calE hf
  obtain ⟨q2, hf⟩ := m_chkE hf
  obtain ⟨b2, -, hf⟩ := m_calE hf
  obtain ⟨q3, hf⟩ := m_chkE hf
  obtain ⟨o3, ho, hf⟩ := m_calE hf
  have h_o3 := eqt_t h_S (fq_X7_legalMove ho)
  clear ho
  cases hf
  exact h_o3
theorem fq_X11_move {o : Int32 × ZS} {x0 : Nat} {x1 : Int32} {S : ZS}  (hf : f_X11_move x0 x1 S = some o)   : EqT S o.2 := by
  have h_S : EqT S S := eqt_0
  unfold f_X11_move at hf
  exact eqt_t h_S (fq_X11_move_0  hf)
theorem fq_X11_result_0 {o : Int32 × ZS} {x0 : Nat} {S : ZS}  (hf : f_X11_result_0 x0 S = some o)   : EqT S o.2 := by
  have h_S : EqT S S := eqt_0
  unfold f_X11_result_0 at hf
  obtain ⟨q1, hf⟩ := m_chkE hf
  obtain ⟨b1, -, hf⟩ := m_calE hf
  obtain ⟨q2, hf⟩ := m_chkE hf
  cases hf
  exact h_S
theorem fq_X11_result {o : Int32 × ZS} {x0 : Nat} {S : ZS}  (hf : f_X11_result x0 S = some o)   : EqT S o.2 := by
  have h_S : EqT S S := eqt_0
  unfold f_X11_result at hf
  exact eqt_t h_S (fq_X11_result_0  hf)
theorem fq_X11_tags_0 {o : Int32 × ZS} {x0 : Nat} {S : ZS}  (hf : f_X11_tags_0 x0 S = some o)   : EqT S o.2 := by
  have h_S : EqT S S := eqt_0
  unfold f_X11_tags_0 at hf
  obtain ⟨q1, hf⟩ := m_chkE hf
  obtain ⟨b1, -, hf⟩ := m_calE hf
  obtain ⟨q2, hf⟩ := m_chkE hf
  cases hf
  exact h_S
theorem fq_X11_tags {o : Int32 × ZS} {x0 : Nat} {S : ZS}  (hf : f_X11_tags x0 S = some o)   : EqT S o.2 := by
  have h_S : EqT S S := eqt_0
  unfold f_X11_tags at hf
  exact eqt_t h_S (fq_X11_tags_0  hf)
