noncomputable def PFq (x bb : Nat) (S S' : ZS) : Prop := zP S 0 bb = some (bb + 1) → PFr S S' x bb
section PFG
variable {x bb : Nat}
theorem pfq_0 {S : ZS} : PFq x bb S S := fun _ => pfr_0
theorem pfq_t {S S1 S2 : ZS} (h : PFq x bb S S1) (g : PFq x bb S1 S2) : PFq x bb S S2 := fun hp => pfr_t (h hp) (g (by rw [(h hp).2.1]; exact hp))
theorem pfq_r {S S1 S2 : ZS} (h : PFq x bb S S1) (g : S2 = S1) : PFq x bb S S2 := by rw [g]; exact h
theorem pfq_x {S S' : ZS} {j a : Nat} {v : Int32} (e : S' = zsI S j a v) (h : a = x) : PFq x bb S S' := fun _ => by subst h; exact pfr_I e
theorem pfq_bb {S S' : ZS} {j a : Nat} {v : Int32} (e : S' = zsI S j a v) (h : a = bb) : PFq x bb S S' := fun _ => by
  subst h
  subst e
  exact ⟨⟨rfl, rfl, rfl, rfl, rfl⟩, rfl, fun i a _ hb => zI_b hb, fun _ _ => rfl, rfl⟩
theorem pfq_A {S S' : ZS} {a b i : Nat} {v : Int32} (e : S' = zsA S b i v) (h1 : zP S 0 a = some b) (h : a = bb) : PFq x bb S S' := fun hp => by
  subst h
  rw [hp] at h1
  cases h1
  subst e
  exact ⟨⟨rfl, rfl, rfl, rfl, rfl⟩, rfl, fun _ _ _ _ => rfl, fun c hc => by show va_up (zA S) _ _ c = _; exact va_up_ne _ _ hc, rfl⟩

theorem pf_X0_wipe_2s {o : Int32 × ZS} {self2 : Nat → Int32 → ZS → Option (Int32 × ZS)} {x0 : Nat} {x1 : Int32} {S : ZS} (hself2 : ∀ (z0 : Nat) (z1 : Int32) (S : ZS) (o : Int32 × ZS), z0 = bb → self2 z0 z1 S = some o → PFq x bb S o.2) (h_x0 : x0 = bb) (hf : f_X0_wipe_2s self2 x0 x1 S = some o) : PFq x bb S o.2 := by
  have h_S : PFq x bb S S := pfq_0
  unfold f_X0_wipe_2s at hf
  rcases m_ifE hf with ⟨-, hf⟩ | ⟨-, hf⟩
  ·
    obtain ⟨-, hf⟩ := m_chkE hf
    obtain ⟨S1, e_S1, hf⟩ := m_bndE hf
    have h_S1 := pfq_t h_S (pfq_bb e_S1 (h_x0))
    obtain ⟨-, hf⟩ := m_chkE hf
    obtain ⟨S2, e_S2, hf⟩ := m_bndE hf
    have h_S2 := pfq_t h_S1 (pfq_bb e_S2 (h_x0))
    obtain ⟨-, hf⟩ := m_chkE hf
    obtain ⟨S3, e_S3, hf⟩ := m_bndE hf
    have h_S3 := pfq_t h_S2 (pfq_bb e_S3 (h_x0))
    obtain ⟨-, hf⟩ := m_chkE hf
    obtain ⟨S4, e_S4, hf⟩ := m_bndE hf
    have h_S4 := pfq_t h_S3 (pfq_bb e_S4 (h_x0))
    cases hf
    exact h_S4
  ·
    obtain ⟨-, hf⟩ := m_chkE hf
    obtain ⟨b5, h_b5, hf⟩ := m_calE hf
    obtain ⟨-, hf⟩ := m_chkE hf
    obtain ⟨-, hf⟩ := m_chkE hf
    obtain ⟨S6, e_S6, hf⟩ := m_bndE hf
    have h_S6 := pfq_t h_S (pfq_A e_S6 h_b5 h_x0)
    obtain ⟨v7, -, hf⟩ := m_bndE hf
    exact pfq_t h_S6 (hself2 _ _ _ _ h_x0 hf)
theorem pf_X0_wipe_2 (n : Nat) : ∀ (y0 : Nat) (y1 : Int32) (S : ZS) (o : Int32 × ZS), y0 = bb → f_X0_wipe_2 n y0 y1 S = some o → PFq x bb S o.2 := by
  induction n with
  | zero => intro y0 y1 S o r0 hf; cases hf
  | succ n ih => intro y0 y1 S o r0 hf; exact pf_X0_wipe_2s ih r0 hf
theorem pf_X0_wipe_0 {o : Int32 × ZS} {x0 : Nat} {S : ZS}  (h_x0 : x0 = bb) (hf : f_X0_wipe_0 x0 S = some o) : PFq x bb S o.2 := by
  have h_S : PFq x bb S S := pfq_0
  unfold f_X0_wipe_0 at hf
  exact pfq_t h_S (pf_X0_wipe_2 _ _ _ _ _ h_x0 hf)
theorem pf_X0_wipe {o : Int32 × ZS} {x0 : Nat} {S : ZS}  (h_x0 : x0 = bb) (hf : f_X0_wipe x0 S = some o) : PFq x bb S o.2 := by
  have h_S : PFq x bb S S := pfq_0
  unfold f_X0_wipe at hf
  exact pfq_t h_S (pf_X0_wipe_0  h_x0 hf)
theorem pf_X0_put_32 {o : Int32 × ZS} {S : ZS}   (hf : f_X0_put_32 S = some o) : PFq x bb S o.2 := by
  have h_S : PFq x bb S S := pfq_0
  unfold f_X0_put_32 at hf
  cases hf
  exact h_S
theorem pf_X0_put_0 {o : Int32 × ZS} {x0 : Nat} {x1 : Int32} {x2 : Int32} {S : ZS}  (h_x0 : x0 = bb) (hf : f_X0_put_0 x0 x1 x2 S = some o) : PFq x bb S o.2 := by
  have h_S : PFq x bb S S := pfq_0
  unfold f_X0_put_0 at hf
  obtain ⟨-, hf⟩ := m_chkE hf
  obtain ⟨b1, h_b1, hf⟩ := m_calE hf
  obtain ⟨-, hf⟩ := m_chkE hf
  obtain ⟨-, hf⟩ := m_chkE hf
  obtain ⟨S2, e_S2, hf⟩ := m_bndE hf
  have h_S2 := pfq_t h_S (pfq_A e_S2 h_b1 h_x0)
  rcases m_ifE hf with ⟨-, hf⟩ | ⟨-, hf⟩
  ·
    obtain ⟨-, hf⟩ := m_chkE hf
    obtain ⟨S4, e_S4, hf⟩ := m_bndE hf
    have h_S4 := pfq_t h_S2 (pfq_bb e_S4 (h_x0))
    exact pfq_t h_S4 (pf_X0_put_32   hf)
  ·
    rcases m_ifE hf with ⟨-, hf⟩ | ⟨-, hf⟩
    ·
      obtain ⟨-, hf⟩ := m_chkE hf
      obtain ⟨S3, e_S3, hf⟩ := m_bndE hf
      have h_S3 := pfq_t h_S2 (pfq_bb e_S3 (h_x0))
      exact pfq_t h_S3 (pf_X0_put_32   hf)
    ·
      exact pfq_t h_S2 (pf_X0_put_32   hf)
theorem pf_X0_put {o : Int32 × ZS} {x0 : Nat} {x1 : Int32} {x2 : Int32} {S : ZS}  (h_x0 : x0 = bb) (hf : f_X0_put x0 x1 x2 S = some o) : PFq x bb S o.2 := by
  have h_S : PFq x bb S S := pfq_0
  unfold f_X0_put at hf
  exact pfq_t h_S (pf_X0_put_0  h_x0 hf)
theorem pf_X5_skip_0 {o : Int32 × ZS} {x0 : Nat} {x1 : Int32} {S : ZS}  (h_x0 : x0 = x) (hf : f_X5_skip_0 x0 x1 S = some o) : PFq x bb S o.2 := by
  have h_S : PFq x bb S S := pfq_0
  unfold f_X5_skip_0 at hf
  obtain ⟨-, hf⟩ := m_chkE hf
  obtain ⟨b1, h_b1, hf⟩ := m_calE hf
  obtain ⟨-, hf⟩ := m_chkE hf
  obtain ⟨-, hf⟩ := m_chkE hf
  obtain ⟨o2, ho, hf⟩ := m_calE hf
  have h_o2 := pfq_r h_S (ro_X6_at ho)
  clear ho
  rcases m_ifE hf with ⟨-, hf⟩ | ⟨-, hf⟩
  ·
    obtain ⟨-, hf⟩ := m_chkE hf
    obtain ⟨v3, -, hf⟩ := m_bndE hf
    obtain ⟨-, hf⟩ := m_chkE hf
    obtain ⟨S4, e_S4, hf⟩ := m_bndE hf
    have h_S4 := pfq_t h_o2 (pfq_x e_S4 (h_x0))
    obtain ⟨-, hf⟩ := m_chkE hf
    cases hf
    exact h_S4
  ·
    obtain ⟨-, hf⟩ := m_chkE hf
    cases hf
    exact h_o2
theorem pf_X5_skip {o : Int32 × ZS} {x0 : Nat} {x1 : Int32} {S : ZS}  (h_x0 : x0 = x) (hf : f_X5_skip x0 x1 S = some o) : PFq x bb S o.2 := by
  have h_S : PFq x bb S S := pfq_0
  unfold f_X5_skip at hf
  exact pfq_t h_S (pf_X5_skip_0  h_x0 hf)
theorem pf_X5_readRank_136 {o : Int32 × ZS} {t0 : Int32} {S : ZS}   (hf : f_X5_readRank_136 t0 S = some o) : PFq x bb S o.2 := by
  have h_S : PFq x bb S S := pfq_0
  unfold f_X5_readRank_136 at hf
  obtain ⟨-, hf⟩ := m_chkE hf
  cases hf
  exact h_S
theorem pf_X5_readRank_105 {o : Int32 × ZS} {self5 : Nat → Nat → Int32 → Int32 → Int32 → ZS → Option (Int32 × ZS)} {x0 : Nat} {x1 : Nat} {x2 : Int32} {x6 : Int32} {t0 : Int32} {t1 : Int32} {S : ZS} (hself5 : ∀ (z0 : Nat) (z1 : Nat) (z2 : Int32) (z3 : Int32) (z4 : Int32) (S : ZS) (o : Int32 × ZS), z0 = x → z1 = bb → self5 z0 z1 z2 z3 z4 S = some o → PFq x bb S o.2) (h_x0 : x0 = x) (h_x1 : x1 = bb) (hf : f_X5_readRank_105 self5 x0 x1 x2 x6 t0 t1 S = some o) : PFq x bb S o.2 := by
  have h_S : PFq x bb S S := pfq_0
  unfold f_X5_readRank_105 at hf
  obtain ⟨v1, -, hf⟩ := m_bndE hf
  obtain ⟨-, hf⟩ := m_chkE hf
  obtain ⟨v2, -, hf⟩ := m_bndE hf
  obtain ⟨-, hf⟩ := m_chkE hf
  obtain ⟨S3, e_S3, hf⟩ := m_bndE hf
  have h_S3 := pfq_t h_S (pfq_x e_S3 (h_x0))
  exact pfq_t h_S3 (hself5 _ _ _ _ _ _ _ h_x0 h_x1 hf)
theorem pf_X5_readRank_89 {o : Int32 × ZS} {self5 : Nat → Nat → Int32 → Int32 → Int32 → ZS → Option (Int32 × ZS)} {x0 : Nat} {x1 : Nat} {x2 : Int32} {x4 : Int32} {x5 : Int32} {x6 : Int32} {S : ZS} (hself5 : ∀ (z0 : Nat) (z1 : Nat) (z2 : Int32) (z3 : Int32) (z4 : Int32) (S : ZS) (o : Int32 × ZS), z0 = x → z1 = bb → self5 z0 z1 z2 z3 z4 S = some o → PFq x bb S o.2) (h_x0 : x0 = x) (h_x1 : x1 = bb) (hf : f_X5_readRank_89 self5 x0 x1 x2 x4 x5 x6 S = some o) : PFq x bb S o.2 := by
  have h_S : PFq x bb S S := pfq_0
  unfold f_X5_readRank_89 at hf
  rcases m_ifE hf with ⟨-, hf⟩ | ⟨-, hf⟩
  ·
    exact pfq_t h_S (pf_X5_readRank_105 hself5 h_x0 h_x1 hf)
  ·
    obtain ⟨v1, -, hf⟩ := m_bndE hf
    exact pfq_t h_S (pf_X5_readRank_105 hself5 h_x0 h_x1 hf)
theorem pf_X5_readRank_74 {o : Int32 × ZS} {self5 : Nat → Nat → Int32 → Int32 → Int32 → ZS → Option (Int32 × ZS)} {x0 : Nat} {x1 : Nat} {x2 : Int32} {x4 : Int32} {x5 : Int32} {x6 : Int32} {x7 : Int32} {S : ZS} (hself5 : ∀ (z0 : Nat) (z1 : Nat) (z2 : Int32) (z3 : Int32) (z4 : Int32) (S : ZS) (o : Int32 × ZS), z0 = x → z1 = bb → self5 z0 z1 z2 z3 z4 S = some o → PFq x bb S o.2) (h_x0 : x0 = x) (h_x1 : x1 = bb) (hf : f_X5_readRank_74 self5 x0 x1 x2 x4 x5 x6 x7 S = some o) : PFq x bb S o.2 := by
  have h_S : PFq x bb S S := pfq_0
  unfold f_X5_readRank_74 at hf
  rcases m_ifE hf with ⟨-, hf⟩ | ⟨-, hf⟩
  ·
    obtain ⟨v1, -, hf⟩ := m_bndE hf
    obtain ⟨-, hf⟩ := m_chkE hf
    obtain ⟨o2, ho, hf⟩ := m_calE hf
    have h_o2 := pfq_t h_S (pf_X0_put h_x1 ho)
    clear ho
    exact pfq_t h_o2 (pf_X5_readRank_89 hself5 h_x0 h_x1 hf)
  ·
    exact pfq_t h_S (pf_X5_readRank_89 hself5 h_x0 h_x1 hf)
theorem pf_X5_readRank_72 {o : Int32 × ZS} {S : ZS}   (hf : f_X5_readRank_72 S = some o) : PFq x bb S o.2 := by
  have h_S : PFq x bb S S := pfq_0
  unfold f_X5_readRank_72 at hf
  obtain ⟨-, hf⟩ := m_chkE hf
  cases hf
  exact h_S
theorem pf_X5_readRank_53 {o : Int32 × ZS} {self5 : Nat → Nat → Int32 → Int32 → Int32 → ZS → Option (Int32 × ZS)} {x0 : Nat} {x1 : Nat} {x2 : Int32} {x3 : Int32} {x4 : Int32} {x5 : Int32} {x6 : Int32} {t0 : Int32} {S : ZS} (hself5 : ∀ (z0 : Nat) (z1 : Nat) (z2 : Int32) (z3 : Int32) (z4 : Int32) (S : ZS) (o : Int32 × ZS), z0 = x → z1 = bb → self5 z0 z1 z2 z3 z4 S = some o → PFq x bb S o.2) (h_x0 : x0 = x) (h_x1 : x1 = bb) (hf : f_X5_readRank_53 self5 x0 x1 x2 x3 x4 x5 x6 t0 S = some o) : PFq x bb S o.2 := by
  have h_S : PFq x bb S S := pfq_0
  unfold f_X5_readRank_53 at hf
  rcases m_ifE hf with ⟨-, hf⟩ | ⟨-, hf⟩
  ·
    rcases m_ifE hf with ⟨-, hf⟩ | ⟨-, hf⟩
    ·
      exact pfq_t h_S (pf_X5_readRank_72   hf)
    ·
      exact pfq_t h_S (pf_X5_readRank_74 hself5 h_x0 h_x1 hf)
  ·
    rcases m_ifE hf with ⟨-, hf⟩ | ⟨-, hf⟩
    ·
      exact pfq_t h_S (pf_X5_readRank_74 hself5 h_x0 h_x1 hf)
    ·
      exact pfq_t h_S (pf_X5_readRank_72   hf)
theorem pf_X5_readRank_5s {o : Int32 × ZS} {self5 : Nat → Nat → Int32 → Int32 → Int32 → ZS → Option (Int32 × ZS)} {x0 : Nat} {x1 : Nat} {x2 : Int32} {x3 : Int32} {x4 : Int32} {S : ZS} (hself5 : ∀ (z0 : Nat) (z1 : Nat) (z2 : Int32) (z3 : Int32) (z4 : Int32) (S : ZS) (o : Int32 × ZS), z0 = x → z1 = bb → self5 z0 z1 z2 z3 z4 S = some o → PFq x bb S o.2) (h_x0 : x0 = x) (h_x1 : x1 = bb) (hf : f_X5_readRank_5s self5 x0 x1 x2 x3 x4 S = some o) : PFq x bb S o.2 := by
  have h_S : PFq x bb S S := pfq_0
  unfold f_X5_readRank_5s at hf
  rcases m_ifE hf with ⟨-, hf⟩ | ⟨-, hf⟩
  ·
    rcases m_ifE hf with ⟨-, hf⟩ | ⟨-, hf⟩
    ·
      exact pfq_t h_S (pf_X5_readRank_136   hf)
    ·
      exact pfq_t h_S (pf_X5_readRank_136   hf)
  ·
    obtain ⟨-, hf⟩ := m_chkE hf
    obtain ⟨b1, h_b1, hf⟩ := m_calE hf
    obtain ⟨-, hf⟩ := m_chkE hf
    obtain ⟨-, hf⟩ := m_chkE hf
    obtain ⟨o2, ho, hf⟩ := m_calE hf
    have h_o2 := pfq_r h_S (ro_X6_at ho)
    clear ho
    obtain ⟨o3, ho, hf⟩ := m_calE hf
    have h_o3 := pfq_r h_o2 (ro_X11_isRank ho)
    clear ho
    obtain ⟨o4, ho, hf⟩ := m_calE hf
    have h_o4 := pfq_r h_o3 (ro_X11_isLetter ho)
    clear ho
    rcases m_ifE hf with ⟨-, hf⟩ | ⟨-, hf⟩
    ·
      exact pfq_t h_o4 (pf_X5_readRank_53 hself5 h_x0 h_x1 hf)
    ·
      obtain ⟨-, hf⟩ := m_chkE hf
      obtain ⟨o5, ho, hf⟩ := m_calE hf
      have h_o5 := pfq_r h_o4 (ro_J0_indexOf_0f7a4 ho)
      clear ho
      obtain ⟨v6, -, hf⟩ := m_bndE hf
      exact pfq_t h_o5 (pf_X5_readRank_53 hself5 h_x0 h_x1 hf)
theorem pf_X5_readRank_5 (n : Nat) : ∀ (y0 : Nat) (y1 : Nat) (y2 : Int32) (y3 : Int32) (y4 : Int32) (S : ZS) (o : Int32 × ZS), y0 = x → y1 = bb → f_X5_readRank_5 n y0 y1 y2 y3 y4 S = some o → PFq x bb S o.2 := by
  induction n with
  | zero => intro y0 y1 y2 y3 y4 S o r0 r1 hf; cases hf
  | succ n ih => intro y0 y1 y2 y3 y4 S o r0 r1 hf; exact pf_X5_readRank_5s ih r0 r1 hf
theorem pf_X5_readRank_0 {o : Int32 × ZS} {x0 : Nat} {x1 : Nat} {x2 : Int32} {S : ZS}  (h_x0 : x0 = x) (h_x1 : x1 = bb) (hf : f_X5_readRank_0 x0 x1 x2 S = some o) : PFq x bb S o.2 := by
  have h_S : PFq x bb S S := pfq_0
  unfold f_X5_readRank_0 at hf
  exact pfq_t h_S (pf_X5_readRank_5 _ _ _ _ _ _ _ _ h_x0 h_x1 hf)
theorem pf_X5_readRank {o : Int32 × ZS} {x0 : Nat} {x1 : Nat} {x2 : Int32} {S : ZS}  (h_x0 : x0 = x) (h_x1 : x1 = bb) (hf : f_X5_readRank x0 x1 x2 S = some o) : PFq x bb S o.2 := by
  have h_S : PFq x bb S S := pfq_0
  unfold f_X5_readRank at hf
  exact pfq_t h_S (pf_X5_readRank_0  h_x0 h_x1 hf)
theorem pf_X5_readMen_34 {o : Int32 × ZS} {S : ZS}   (hf : f_X5_readMen_34 S = some o) : PFq x bb S o.2 := by
  have h_S : PFq x bb S S := pfq_0
  unfold f_X5_readMen_34 at hf
  obtain ⟨-, hf⟩ := m_chkE hf
  cases hf
  exact h_S
theorem pf_X5_readMen_22 {o : Int32 × ZS} {self3 : Nat → Nat → Int32 → ZS → Option (Int32 × ZS)} {x0 : Nat} {x1 : Nat} {x2 : Int32} {S : ZS} (hself3 : ∀ (z0 : Nat) (z1 : Nat) (z2 : Int32) (S : ZS) (o : Int32 × ZS), z0 = x → z1 = bb → self3 z0 z1 z2 S = some o → PFq x bb S o.2) (h_x0 : x0 = x) (h_x1 : x1 = bb) (hf : f_X5_readMen_22 self3 x0 x1 x2 S = some o) : PFq x bb S o.2 := by
  have h_S : PFq x bb S S := pfq_0
  unfold f_X5_readMen_22 at hf
  obtain ⟨v1, -, hf⟩ := m_bndE hf
  obtain ⟨-, hf⟩ := m_chkE hf
  obtain ⟨o2, ho, hf⟩ := m_calE hf
  have h_o2 := pfq_t h_S (pf_X5_readRank h_x0 h_x1 ho)
  clear ho
  rcases m_ifE hf with ⟨-, hf⟩ | ⟨-, hf⟩
  ·
    exact pfq_t h_o2 (pf_X5_readMen_34   hf)
  ·
    obtain ⟨v3, -, hf⟩ := m_bndE hf
    exact pfq_t h_o2 (hself3 _ _ _ _ _ h_x0 h_x1 hf)
theorem pf_X5_readMen_3s {o : Int32 × ZS} {self3 : Nat → Nat → Int32 → ZS → Option (Int32 × ZS)} {x0 : Nat} {x1 : Nat} {x2 : Int32} {S : ZS} (hself3 : ∀ (z0 : Nat) (z1 : Nat) (z2 : Int32) (S : ZS) (o : Int32 × ZS), z0 = x → z1 = bb → self3 z0 z1 z2 S = some o → PFq x bb S o.2) (h_x0 : x0 = x) (h_x1 : x1 = bb) (hf : f_X5_readMen_3s self3 x0 x1 x2 S = some o) : PFq x bb S o.2 := by
  have h_S : PFq x bb S S := pfq_0
  unfold f_X5_readMen_3s at hf
  rcases m_ifE hf with ⟨-, hf⟩ | ⟨-, hf⟩
  ·
    obtain ⟨-, hf⟩ := m_chkE hf
    cases hf
    exact h_S
  ·
    rcases m_ifE hf with ⟨-, hf⟩ | ⟨-, hf⟩
    ·
      exact pfq_t h_S (pf_X5_readMen_22 hself3 h_x0 h_x1 hf)
    ·
      obtain ⟨-, hf⟩ := m_chkE hf
      obtain ⟨o1, ho, hf⟩ := m_calE hf
      have h_o1 := pfq_t h_S (pf_X5_skip h_x0 ho)
      clear ho
      rcases m_ifE hf with ⟨-, hf⟩ | ⟨-, hf⟩
      ·
        exact pfq_t h_o1 (pf_X5_readMen_34   hf)
      ·
        exact pfq_t h_o1 (pf_X5_readMen_22 hself3 h_x0 h_x1 hf)
theorem pf_X5_readMen_3 (n : Nat) : ∀ (y0 : Nat) (y1 : Nat) (y2 : Int32) (S : ZS) (o : Int32 × ZS), y0 = x → y1 = bb → f_X5_readMen_3 n y0 y1 y2 S = some o → PFq x bb S o.2 := by
  induction n with
  | zero => intro y0 y1 y2 S o r0 r1 hf; cases hf
  | succ n ih => intro y0 y1 y2 S o r0 r1 hf; exact pf_X5_readMen_3s ih r0 r1 hf
theorem pf_X5_readMen_0 {o : Int32 × ZS} {x0 : Nat} {x1 : Nat} {S : ZS}  (h_x0 : x0 = x) (h_x1 : x1 = bb) (hf : f_X5_readMen_0 x0 x1 S = some o) : PFq x bb S o.2 := by
  have h_S : PFq x bb S S := pfq_0
  unfold f_X5_readMen_0 at hf
  exact pfq_t h_S (pf_X5_readMen_3 _ _ _ _ _ _ h_x0 h_x1 hf)
theorem pf_X5_readMen {o : Int32 × ZS} {x0 : Nat} {x1 : Nat} {S : ZS}  (h_x0 : x0 = x) (h_x1 : x1 = bb) (hf : f_X5_readMen x0 x1 S = some o) : PFq x bb S o.2 := by
  have h_S : PFq x bb S S := pfq_0
  unfold f_X5_readMen at hf
  exact pfq_t h_S (pf_X5_readMen_0  h_x0 h_x1 hf)
theorem pf_X5_readSide_48 {o : Int32 × ZS} {t0 : Int32} {S : ZS}   (hf : f_X5_readSide_48 t0 S = some o) : PFq x bb S o.2 := by
  have h_S : PFq x bb S S := pfq_0
  unfold f_X5_readSide_48 at hf
  obtain ⟨-, hf⟩ := m_chkE hf
  cases hf
  exact h_S
theorem pf_X5_readSide_43 {o : Int32 × ZS} {S : ZS}   (hf : f_X5_readSide_43 S = some o) : PFq x bb S o.2 := by
  have h_S : PFq x bb S S := pfq_0
  unfold f_X5_readSide_43 at hf
  exact pfq_t h_S (pf_X5_readSide_48   hf)
theorem pf_X5_readSide_22 {o : Int32 × ZS} {x0 : Nat} {t0 : Int32} {t1 : Nat} {S : ZS}  (h_x0 : x0 = x) (h_t1 : t1 = bb) (hf : f_X5_readSide_22 x0 t0 t1 S = some o) : PFq x bb S o.2 := by
  have h_S : PFq x bb S S := pfq_0
  unfold f_X5_readSide_22 at hf
  obtain ⟨-, hf⟩ := m_chkE hf
  obtain ⟨S1, e_S1, hf⟩ := m_bndE hf
  have h_S1 := pfq_t h_S (pfq_bb e_S1 (h_t1))
  obtain ⟨-, hf⟩ := m_chkE hf
  obtain ⟨o2, ho, hf⟩ := m_calE hf
  have h_o2 := pfq_t h_S1 (pf_X5_skip h_x0 ho)
  clear ho
  rcases m_ifE hf with ⟨-, hf⟩ | ⟨-, hf⟩
  ·
    obtain ⟨-, hf⟩ := m_chkE hf
    obtain ⟨o3, ho, hf⟩ := m_calE hf
    have h_o3 := pfq_t h_o2 (pf_X5_skip h_x0 ho)
    clear ho
    rcases m_ifE hf with ⟨-, hf⟩ | ⟨-, hf⟩
    ·
      exact pfq_t h_o3 (pf_X5_readSide_48   hf)
    ·
      exact pfq_t h_o3 (pf_X5_readSide_43   hf)
  ·
    exact pfq_t h_o2 (pf_X5_readSide_43   hf)
theorem pf_X5_readSide_0 {o : Int32 × ZS} {x0 : Nat} {x1 : Nat} {S : ZS}  (h_x0 : x0 = x) (h_x1 : x1 = bb) (hf : f_X5_readSide_0 x0 x1 S = some o) : PFq x bb S o.2 := by
  have h_S : PFq x bb S S := pfq_0
  unfold f_X5_readSide_0 at hf
  obtain ⟨-, hf⟩ := m_chkE hf
  obtain ⟨b1, h_b1, hf⟩ := m_calE hf
  obtain ⟨-, hf⟩ := m_chkE hf
  obtain ⟨-, hf⟩ := m_chkE hf
  obtain ⟨o2, ho, hf⟩ := m_calE hf
  have h_o2 := pfq_r h_S (ro_X6_at ho)
  clear ho
  rcases m_ifE hf with ⟨-, hf⟩ | ⟨-, hf⟩
  ·
    exact pfq_t h_o2 (pf_X5_readSide_22  h_x0 h_x1 hf)
  ·
    exact pfq_t h_o2 (pf_X5_readSide_22  h_x0 h_x1 hf)
theorem pf_X5_readSide {o : Int32 × ZS} {x0 : Nat} {x1 : Nat} {S : ZS}  (h_x0 : x0 = x) (h_x1 : x1 = bb) (hf : f_X5_readSide x0 x1 S = some o) : PFq x bb S o.2 := by
  have h_S : PFq x bb S S := pfq_0
  unfold f_X5_readSide at hf
  exact pfq_t h_S (pf_X5_readSide_0  h_x0 h_x1 hf)
theorem pf_X5_readRights_65 {o : Int32 × ZS} {t0 : Int32} {S : ZS}   (hf : f_X5_readRights_65 t0 S = some o) : PFq x bb S o.2 := by
  have h_S : PFq x bb S S := pfq_0
  unfold f_X5_readRights_65 at hf
  obtain ⟨-, hf⟩ := m_chkE hf
  cases hf
  exact h_S
theorem pf_X5_readRights_47 {o : Int32 × ZS} {self13 : Nat → Nat → Int32 → ZS → Option (Int32 × ZS)} {x0 : Nat} {x1 : Nat} {x2 : Int32} {S : ZS} (hself13 : ∀ (z0 : Nat) (z1 : Nat) (z2 : Int32) (S : ZS) (o : Int32 × ZS), z0 = x → z1 = bb → self13 z0 z1 z2 S = some o → PFq x bb S o.2) (h_x0 : x0 = x) (h_x1 : x1 = bb) (hf : f_X5_readRights_47 self13 x0 x1 x2 S = some o) : PFq x bb S o.2 := by
  have h_S : PFq x bb S S := pfq_0
  unfold f_X5_readRights_47 at hf
  obtain ⟨v1, -, hf⟩ := m_bndE hf
  exact pfq_t h_S (hself13 _ _ _ _ _ h_x0 h_x1 hf)
theorem pf_X5_readRights_13s {o : Int32 × ZS} {self13 : Nat → Nat → Int32 → ZS → Option (Int32 × ZS)} {x0 : Nat} {x1 : Nat} {x2 : Int32} {S : ZS} (hself13 : ∀ (z0 : Nat) (z1 : Nat) (z2 : Int32) (S : ZS) (o : Int32 × ZS), z0 = x → z1 = bb → self13 z0 z1 z2 S = some o → PFq x bb S o.2) (h_x0 : x0 = x) (h_x1 : x1 = bb) (hf : f_X5_readRights_13s self13 x0 x1 x2 S = some o) : PFq x bb S o.2 := by
  have h_S : PFq x bb S S := pfq_0
  unfold f_X5_readRights_13s at hf
  obtain ⟨-, hf⟩ := m_chkE hf
  obtain ⟨o1, ho, hf⟩ := m_calE hf
  have h_o1 := pfq_r h_S (ro_J0_length_8abf5 ho)
  clear ho
  rcases m_ifE hf with ⟨-, hf⟩ | ⟨-, hf⟩
  ·
    obtain ⟨-, hf⟩ := m_chkE hf
    rcases m_ifE hf with ⟨-, hf⟩ | ⟨-, hf⟩
    ·
      exact pfq_t h_o1 (pf_X5_readRights_65   hf)
    ·
      exact pfq_t h_o1 (pf_X5_readRights_65   hf)
  ·
    obtain ⟨-, hf⟩ := m_chkE hf
    obtain ⟨o2, ho, hf⟩ := m_calE hf
    have h_o2 := pfq_r h_o1 (ro_J0_charAt_5068e ho)
    clear ho
    obtain ⟨-, hf⟩ := m_chkE hf
    obtain ⟨o3, ho, hf⟩ := m_calE hf
    have h_o3 := pfq_t h_o2 (pf_X5_skip h_x0 ho)
    clear ho
    rcases m_ifE hf with ⟨-, hf⟩ | ⟨-, hf⟩
    ·
      exact pfq_t h_o3 (pf_X5_readRights_47 hself13 h_x0 h_x1 hf)
    ·
      obtain ⟨-, hf⟩ := m_chkE hf
      obtain ⟨v4, -, hf⟩ := m_bndE hf
      obtain ⟨v5, -, hf⟩ := m_bndE hf
      obtain ⟨-, hf⟩ := m_chkE hf
      obtain ⟨S6, e_S6, hf⟩ := m_bndE hf
      have h_S6 := pfq_t h_o3 (pfq_bb e_S6 (h_x1))
      exact pfq_t h_S6 (pf_X5_readRights_47 hself13 h_x0 h_x1 hf)
theorem pf_X5_readRights_13 (n : Nat) : ∀ (y0 : Nat) (y1 : Nat) (y2 : Int32) (S : ZS) (o : Int32 × ZS), y0 = x → y1 = bb → f_X5_readRights_13 n y0 y1 y2 S = some o → PFq x bb S o.2 := by
  induction n with
  | zero => intro y0 y1 y2 S o r0 r1 hf; cases hf
  | succ n ih => intro y0 y1 y2 S o r0 r1 hf; exact pf_X5_readRights_13s ih r0 r1 hf
theorem pf_X5_readRights_0 {o : Int32 × ZS} {x0 : Nat} {x1 : Nat} {S : ZS}  (h_x0 : x0 = x) (h_x1 : x1 = bb) (hf : f_X5_readRights_0 x0 x1 S = some o) : PFq x bb S o.2 := by
  have h_S : PFq x bb S S := pfq_0
  unfold f_X5_readRights_0 at hf
  obtain ⟨-, hf⟩ := m_chkE hf
  obtain ⟨o1, ho, hf⟩ := m_calE hf
  have h_o1 := pfq_t h_S (pf_X5_skip h_x0 ho)
  clear ho
  rcases m_ifE hf with ⟨-, hf⟩ | ⟨-, hf⟩
  ·
    exact pfq_t h_o1 (pf_X5_readRights_13 _ _ _ _ _ _ h_x0 h_x1 hf)
  ·
    obtain ⟨-, hf⟩ := m_chkE hf
    cases hf
    exact h_o1
theorem pf_X5_readRights {o : Int32 × ZS} {x0 : Nat} {x1 : Nat} {S : ZS}  (h_x0 : x0 = x) (h_x1 : x1 = bb) (hf : f_X5_readRights x0 x1 S = some o) : PFq x bb S o.2 := by
  have h_S : PFq x bb S S := pfq_0
  unfold f_X5_readRights at hf
  exact pfq_t h_S (pf_X5_readRights_0  h_x0 h_x1 hf)
theorem pf_X5_readPassed_65 {o : Int32 × ZS} {t0 : Int32} {S : ZS}   (hf : f_X5_readPassed_65 t0 S = some o) : PFq x bb S o.2 := by
  have h_S : PFq x bb S S := pfq_0
  unfold f_X5_readPassed_65 at hf
  obtain ⟨-, hf⟩ := m_chkE hf
  cases hf
  exact h_S
theorem pf_X5_readPassed_0 {o : Int32 × ZS} {x0 : Nat} {x1 : Nat} {S : ZS}  (h_x0 : x0 = x) (h_x1 : x1 = bb) (hf : f_X5_readPassed_0 x0 x1 S = some o) : PFq x bb S o.2 := by
  have h_S : PFq x bb S S := pfq_0
  unfold f_X5_readPassed_0 at hf
  obtain ⟨-, hf⟩ := m_chkE hf
  obtain ⟨o1, ho, hf⟩ := m_calE hf
  have h_o1 := pfq_t h_S (pf_X5_skip h_x0 ho)
  clear ho
  rcases m_ifE hf with ⟨-, hf⟩ | ⟨-, hf⟩
  ·
    obtain ⟨-, hf⟩ := m_chkE hf
    obtain ⟨b2, h_b2, hf⟩ := m_calE hf
    obtain ⟨-, hf⟩ := m_chkE hf
    obtain ⟨-, hf⟩ := m_chkE hf
    obtain ⟨o3, ho, hf⟩ := m_calE hf
    have h_o3 := pfq_r h_o1 (ro_X6_at ho)
    clear ho
    obtain ⟨-, hf⟩ := m_chkE hf
    obtain ⟨b4, h_b4, hf⟩ := m_calE hf
    obtain ⟨-, hf⟩ := m_chkE hf
    obtain ⟨v5, -, hf⟩ := m_bndE hf
    obtain ⟨-, hf⟩ := m_chkE hf
    obtain ⟨o6, ho, hf⟩ := m_calE hf
    have h_o6 := pfq_r h_o3 (ro_X6_at ho)
    clear ho
    obtain ⟨o7, ho, hf⟩ := m_calE hf
    have h_o7 := pfq_r h_o6 (ro_X11_squareOf ho)
    clear ho
    obtain ⟨-, hf⟩ := m_chkE hf
    obtain ⟨S8, e_S8, hf⟩ := m_bndE hf
    have h_S8 := pfq_t h_o7 (pfq_bb e_S8 (h_x1))
    obtain ⟨-, hf⟩ := m_chkE hf
    obtain ⟨v9, -, hf⟩ := m_bndE hf
    obtain ⟨-, hf⟩ := m_chkE hf
    obtain ⟨S10, e_S10, hf⟩ := m_bndE hf
    have h_S10 := pfq_t h_S8 (pfq_x e_S10 (h_x0))
    obtain ⟨-, hf⟩ := m_chkE hf
    rcases m_ifE hf with ⟨-, hf⟩ | ⟨-, hf⟩
    ·
      exact pfq_t h_S10 (pf_X5_readPassed_65   hf)
    ·
      exact pfq_t h_S10 (pf_X5_readPassed_65   hf)
  ·
    obtain ⟨-, hf⟩ := m_chkE hf
    cases hf
    exact h_o1
theorem pf_X5_readPassed {o : Int32 × ZS} {x0 : Nat} {x1 : Nat} {S : ZS}  (h_x0 : x0 = x) (h_x1 : x1 = bb) (hf : f_X5_readPassed x0 x1 S = some o) : PFq x bb S o.2 := by
  have h_S : PFq x bb S S := pfq_0
  unfold f_X5_readPassed at hf
  exact pfq_t h_S (pf_X5_readPassed_0  h_x0 h_x1 hf)
theorem pf_X5_readNumber_113 {o : Int32 × ZS} {t0 : Int32} {S : ZS}   (hf : f_X5_readNumber_113 t0 S = some o) : PFq x bb S o.2 := by
  have h_S : PFq x bb S S := pfq_0
  unfold f_X5_readNumber_113 at hf
  cases hf
  exact h_S
theorem pf_X5_readNumber_108 {o : Int32 × ZS} {S : ZS}   (hf : f_X5_readNumber_108 S = some o) : PFq x bb S o.2 := by
  have h_S : PFq x bb S S := pfq_0
  unfold f_X5_readNumber_108 at hf
  exact pfq_t h_S (pf_X5_readNumber_113   hf)
theorem pf_X5_readNumber_95 {o : Int32 × ZS} {x0 : Nat} {x1 : Int32} {x2 : Int32} {t0 : Int32} {S : ZS}  (h_x0 : x0 = x) (hf : f_X5_readNumber_95 x0 x1 x2 t0 S = some o) : PFq x bb S o.2 := by
  have h_S : PFq x bb S S := pfq_0
  unfold f_X5_readNumber_95 at hf
  obtain ⟨-, hf⟩ := m_chkE hf
  rcases m_ifE hf with ⟨-, hf⟩ | ⟨-, hf⟩
  ·
    exact pfq_t h_S (pf_X5_readNumber_108   hf)
  ·
    rcases m_ifE hf with ⟨-, hf⟩ | ⟨-, hf⟩
    ·
      exact pfq_t h_S (pf_X5_readNumber_113   hf)
    ·
      exact pfq_t h_S (pf_X5_readNumber_108   hf)
theorem pf_X5_readNumber_94 {o : Int32 × ZS} {x0 : Nat} {x1 : Int32} {x2 : Int32} {S : ZS}  (h_x0 : x0 = x) (hf : f_X5_readNumber_94 x0 x1 x2 S = some o) : PFq x bb S o.2 := by
  have h_S : PFq x bb S S := pfq_0
  unfold f_X5_readNumber_94 at hf
  exact pfq_t h_S (pf_X5_readNumber_95  h_x0 hf)
theorem pf_X5_readNumber_67 {o : Int32 × ZS} {x0 : Nat} {x1 : Int32} {x2 : Int32} {S : ZS}  (h_x0 : x0 = x) (hf : f_X5_readNumber_67 x0 x1 x2 S = some o) : PFq x bb S o.2 := by
  have h_S : PFq x bb S S := pfq_0
  unfold f_X5_readNumber_67 at hf
  obtain ⟨-, hf⟩ := m_chkE hf
  obtain ⟨b1, h_b1, hf⟩ := m_calE hf
  obtain ⟨-, hf⟩ := m_chkE hf
  obtain ⟨o2, ho, hf⟩ := m_calE hf
  have h_o2 := pfq_r h_S (ro_X6_at ho)
  clear ho
  rcases m_ifE hf with ⟨-, hf⟩ | ⟨-, hf⟩
  ·
    obtain ⟨-, hf⟩ := m_chkE hf
    obtain ⟨v3, -, hf⟩ := m_bndE hf
    rcases m_ifE hf with ⟨-, hf⟩ | ⟨-, hf⟩
    ·
      exact pfq_t h_o2 (pf_X5_readNumber_94  h_x0 hf)
    ·
      exact pfq_t h_o2 (pf_X5_readNumber_95  h_x0 hf)
  ·
    exact pfq_t h_o2 (pf_X5_readNumber_94  h_x0 hf)
theorem pf_X5_readNumber_7s {o : Int32 × ZS} {self7 : Nat → Int32 → Int32 → ZS → Option (Int32 × ZS)} {x0 : Nat} {x1 : Int32} {x2 : Int32} {S : ZS} (hself7 : ∀ (z0 : Nat) (z1 : Int32) (z2 : Int32) (S : ZS) (o : Int32 × ZS), z0 = x → self7 z0 z1 z2 S = some o → PFq x bb S o.2) (h_x0 : x0 = x) (hf : f_X5_readNumber_7s self7 x0 x1 x2 S = some o) : PFq x bb S o.2 := by
  have h_S : PFq x bb S S := pfq_0
  unfold f_X5_readNumber_7s at hf
  obtain ⟨-, hf⟩ := m_chkE hf
  obtain ⟨v1, -, hf⟩ := m_bndE hf
  rcases m_ifE hf with ⟨-, hf⟩ | ⟨-, hf⟩
  ·
    exact pfq_t h_S (pf_X5_readNumber_67  h_x0 hf)
  ·
    obtain ⟨-, hf⟩ := m_chkE hf
    obtain ⟨b2, h_b2, hf⟩ := m_calE hf
    obtain ⟨-, hf⟩ := m_chkE hf
    obtain ⟨-, hf⟩ := m_chkE hf
    obtain ⟨o3, ho, hf⟩ := m_calE hf
    have h_o3 := pfq_r h_S (ro_X6_at ho)
    clear ho
    obtain ⟨o4, ho, hf⟩ := m_calE hf
    have h_o4 := pfq_r h_o3 (ro_X11_isDigit ho)
    clear ho
    rcases m_ifE hf with ⟨-, hf⟩ | ⟨-, hf⟩
    ·
      exact pfq_t h_o4 (pf_X5_readNumber_67  h_x0 hf)
    ·
      obtain ⟨v5, -, hf⟩ := m_bndE hf
      obtain ⟨-, hf⟩ := m_chkE hf
      obtain ⟨b6, h_b6, hf⟩ := m_calE hf
      obtain ⟨-, hf⟩ := m_chkE hf
      obtain ⟨-, hf⟩ := m_chkE hf
      obtain ⟨o7, ho, hf⟩ := m_calE hf
      have h_o7 := pfq_r h_o4 (ro_X6_at ho)
      clear ho
      obtain ⟨v8, -, hf⟩ := m_bndE hf
      obtain ⟨v9, -, hf⟩ := m_bndE hf
      obtain ⟨-, hf⟩ := m_chkE hf
      obtain ⟨v10, -, hf⟩ := m_bndE hf
      obtain ⟨-, hf⟩ := m_chkE hf
      obtain ⟨S11, e_S11, hf⟩ := m_bndE hf
      have h_S11 := pfq_t h_o7 (pfq_x e_S11 (h_x0))
      exact pfq_t h_S11 (hself7 _ _ _ _ _ h_x0 hf)
theorem pf_X5_readNumber_7 (n : Nat) : ∀ (y0 : Nat) (y1 : Int32) (y2 : Int32) (S : ZS) (o : Int32 × ZS), y0 = x → f_X5_readNumber_7 n y0 y1 y2 S = some o → PFq x bb S o.2 := by
  induction n with
  | zero => intro y0 y1 y2 S o r0 hf; cases hf
  | succ n ih => intro y0 y1 y2 S o r0 hf; exact pf_X5_readNumber_7s ih r0 hf
theorem pf_X5_readNumber_0 {o : Int32 × ZS} {x0 : Nat} {S : ZS}  (h_x0 : x0 = x) (hf : f_X5_readNumber_0 x0 S = some o) : PFq x bb S o.2 := by
  have h_S : PFq x bb S S := pfq_0
  unfold f_X5_readNumber_0 at hf
  obtain ⟨-, hf⟩ := m_chkE hf
  exact pfq_t h_S (pf_X5_readNumber_7 _ _ _ _ _ _ h_x0 hf)
theorem pf_X5_readNumber {o : Int32 × ZS} {x0 : Nat} {S : ZS}  (h_x0 : x0 = x) (hf : f_X5_readNumber x0 S = some o) : PFq x bb S o.2 := by
  have h_S : PFq x bb S S := pfq_0
  unfold f_X5_readNumber at hf
  exact pfq_t h_S (pf_X5_readNumber_0  h_x0 hf)
theorem pf_X5_readMoveNumber_20 {o : Int32 × ZS} {t0 : Int32} {S : ZS}   (hf : f_X5_readMoveNumber_20 t0 S = some o) : PFq x bb S o.2 := by
  have h_S : PFq x bb S S := pfq_0
  unfold f_X5_readMoveNumber_20 at hf
  obtain ⟨-, hf⟩ := m_chkE hf
  cases hf
  exact h_S
theorem pf_X5_readMoveNumber_0 {o : Int32 × ZS} {x0 : Nat} {x1 : Nat} {S : ZS}  (h_x0 : x0 = x) (h_x1 : x1 = bb) (hf : f_X5_readMoveNumber_0 x0 x1 S = some o) : PFq x bb S o.2 := by
  have h_S : PFq x bb S S := pfq_0
  unfold f_X5_readMoveNumber_0 at hf
  obtain ⟨-, hf⟩ := m_chkE hf
  obtain ⟨o1, ho, hf⟩ := m_calE hf
  have h_o1 := pfq_t h_S (pf_X5_readNumber h_x0 ho)
  clear ho
  obtain ⟨-, hf⟩ := m_chkE hf
  obtain ⟨S2, e_S2, hf⟩ := m_bndE hf
  have h_S2 := pfq_t h_o1 (pfq_bb e_S2 (h_x1))
  obtain ⟨-, hf⟩ := m_chkE hf
  rcases m_ifE hf with ⟨-, hf⟩ | ⟨-, hf⟩
  ·
    exact pfq_t h_S2 (pf_X5_readMoveNumber_20   hf)
  ·
    exact pfq_t h_S2 (pf_X5_readMoveNumber_20   hf)
theorem pf_X5_readMoveNumber {o : Int32 × ZS} {x0 : Nat} {x1 : Nat} {S : ZS}  (h_x0 : x0 = x) (h_x1 : x1 = bb) (hf : f_X5_readMoveNumber x0 x1 S = some o) : PFq x bb S o.2 := by
  have h_S : PFq x bb S S := pfq_0
  unfold f_X5_readMoveNumber at hf
  exact pfq_t h_S (pf_X5_readMoveNumber_0  h_x0 h_x1 hf)
theorem pf_X5_readInto_146 {o : Int32 × ZS} {t0 : Int32} {S : ZS}   (hf : f_X5_readInto_146 t0 S = some o) : PFq x bb S o.2 := by
  have h_S : PFq x bb S S := pfq_0
  unfold f_X5_readInto_146 at hf
  obtain ⟨-, hf⟩ := m_chkE hf
  cases hf
  exact h_S
theorem pf_X5_readInto_145 {o : Int32 × ZS} {S : ZS}   (hf : f_X5_readInto_145 S = some o) : PFq x bb S o.2 := by
  have h_S : PFq x bb S S := pfq_0
  unfold f_X5_readInto_145 at hf
  exact pfq_t h_S (pf_X5_readInto_146   hf)
theorem pf_X5_readInto_0 {o : Int32 × ZS} {x0 : Nat} {x1 : Nat} {x2 : Nat} {S : ZS}  {BB : ZS} (hBB : BB = zsI (zsP S 0 x0 (some x2)) 1 x0 0) (h_x0 : x0 = x) (h_x1 : x1 = bb) (hf : f_X5_readInto_0 x0 x1 x2 S = some o) : PFq x bb BB o.2 := by
  have h_S : PFq x bb S S := pfq_0
  unfold f_X5_readInto_0 at hf
  obtain ⟨-, hf⟩ := m_chkE hf
  obtain ⟨S1, e_S1, hf⟩ := m_bndE hf
  obtain ⟨-, hf⟩ := m_chkE hf
  obtain ⟨S2, e_S2, hf⟩ := m_bndE hf
  have h_S2 : PFq x bb BB S2 := by rw [e_S2, e_S1, ← hBB]; exact pfq_0
  obtain ⟨-, hf⟩ := m_chkE hf
  obtain ⟨o3, ho, hf⟩ := m_calE hf
  have h_o3 := pfq_t h_S2 (pf_X0_wipe h_x1 ho)
  clear ho
  obtain ⟨-, hf⟩ := m_chkE hf
  obtain ⟨o4, ho, hf⟩ := m_calE hf
  have h_o4 := pfq_t h_o3 (pf_X5_readMen h_x0 h_x1 ho)
  clear ho
  rcases m_ifE hf with ⟨-, hf⟩ | ⟨-, hf⟩
  ·
    exact pfq_t h_o4 (pf_X5_readInto_145   hf)
  ·
    obtain ⟨-, hf⟩ := m_chkE hf
    obtain ⟨o5, ho, hf⟩ := m_calE hf
    have h_o5 := pfq_t h_o4 (pf_X5_skip h_x0 ho)
    clear ho
    rcases m_ifE hf with ⟨-, hf⟩ | ⟨-, hf⟩
    ·
      exact pfq_t h_o5 (pf_X5_readInto_145   hf)
    ·
      obtain ⟨-, hf⟩ := m_chkE hf
      obtain ⟨o6, ho, hf⟩ := m_calE hf
      have h_o6 := pfq_t h_o5 (pf_X5_readSide h_x0 h_x1 ho)
      clear ho
      rcases m_ifE hf with ⟨-, hf⟩ | ⟨-, hf⟩
      ·
        exact pfq_t h_o6 (pf_X5_readInto_145   hf)
      ·
        obtain ⟨-, hf⟩ := m_chkE hf
        obtain ⟨o7, ho, hf⟩ := m_calE hf
        have h_o7 := pfq_t h_o6 (pf_X5_skip h_x0 ho)
        clear ho
        rcases m_ifE hf with ⟨-, hf⟩ | ⟨-, hf⟩
        ·
          exact pfq_t h_o7 (pf_X5_readInto_145   hf)
        ·
          obtain ⟨-, hf⟩ := m_chkE hf
          obtain ⟨o8, ho, hf⟩ := m_calE hf
          have h_o8 := pfq_t h_o7 (pf_X5_readRights h_x0 h_x1 ho)
          clear ho
          rcases m_ifE hf with ⟨-, hf⟩ | ⟨-, hf⟩
          ·
            exact pfq_t h_o8 (pf_X5_readInto_145   hf)
          ·
            obtain ⟨-, hf⟩ := m_chkE hf
            obtain ⟨o9, ho, hf⟩ := m_calE hf
            have h_o9 := pfq_t h_o8 (pf_X5_skip h_x0 ho)
            clear ho
            rcases m_ifE hf with ⟨-, hf⟩ | ⟨-, hf⟩
            ·
              exact pfq_t h_o9 (pf_X5_readInto_145   hf)
            ·
              obtain ⟨-, hf⟩ := m_chkE hf
              obtain ⟨o10, ho, hf⟩ := m_calE hf
              have h_o10 := pfq_t h_o9 (pf_X5_readPassed h_x0 h_x1 ho)
              clear ho
              rcases m_ifE hf with ⟨-, hf⟩ | ⟨-, hf⟩
              ·
                exact pfq_t h_o10 (pf_X5_readInto_145   hf)
              ·
                obtain ⟨-, hf⟩ := m_chkE hf
                obtain ⟨o11, ho, hf⟩ := m_calE hf
                have h_o11 := pfq_t h_o10 (pf_X5_skip h_x0 ho)
                clear ho
                rcases m_ifE hf with ⟨-, hf⟩ | ⟨-, hf⟩
                ·
                  exact pfq_t h_o11 (pf_X5_readInto_145   hf)
                ·
                  obtain ⟨-, hf⟩ := m_chkE hf
                  obtain ⟨o12, ho, hf⟩ := m_calE hf
                  have h_o12 := pfq_t h_o11 (pf_X5_readNumber h_x0 ho)
                  clear ho
                  rcases m_ifE hf with ⟨-, hf⟩ | ⟨-, hf⟩
                  ·
                    exact pfq_t h_o12 (pf_X5_readInto_145   hf)
                  ·
                    obtain ⟨-, hf⟩ := m_chkE hf
                    obtain ⟨o13, ho, hf⟩ := m_calE hf
                    have h_o13 := pfq_t h_o12 (pf_X5_skip h_x0 ho)
                    clear ho
                    rcases m_ifE hf with ⟨-, hf⟩ | ⟨-, hf⟩
                    ·
                      exact pfq_t h_o13 (pf_X5_readInto_145   hf)
                    ·
                      obtain ⟨-, hf⟩ := m_chkE hf
                      obtain ⟨o14, ho, hf⟩ := m_calE hf
                      have h_o14 := pfq_t h_o13 (pf_X5_readMoveNumber h_x0 h_x1 ho)
                      clear ho
                      rcases m_ifE hf with ⟨-, hf⟩ | ⟨-, hf⟩
                      ·
                        exact pfq_t h_o14 (pf_X5_readInto_145   hf)
                      ·
                        obtain ⟨-, hf⟩ := m_chkE hf
                        obtain ⟨-, hf⟩ := m_chkE hf
                        obtain ⟨b15, h_b15, hf⟩ := m_calE hf
                        obtain ⟨-, hf⟩ := m_chkE hf
                        obtain ⟨o16, ho, hf⟩ := m_calE hf
                        have h_o16 := pfq_r h_o14 (ro_X6_size ho)
                        clear ho
                        rcases m_ifE hf with ⟨-, hf⟩ | ⟨-, hf⟩
                        ·
                          obtain ⟨o17, ho, hf⟩ := m_calE hf
                          have h_o17 := pfq_r h_o16 (ro_X5_hasSoundMen ho)
                          clear ho
                          rcases m_ifE hf with ⟨-, hf⟩ | ⟨-, hf⟩
                          ·
                            exact pfq_t h_o17 (pf_X5_readInto_145   hf)
                          ·
                            obtain ⟨o18, ho, hf⟩ := m_calE hf
                            have h_o18 := pfq_r h_o17 (ro_X5_hasSoundRights ho)
                            clear ho
                            rcases m_ifE hf with ⟨-, hf⟩ | ⟨-, hf⟩
                            ·
                              exact pfq_t h_o18 (pf_X5_readInto_145   hf)
                            ·
                              obtain ⟨o19, ho, hf⟩ := m_calE hf
                              have h_o19 := pfq_r h_o18 (ro_X5_hasSoundPassed ho)
                              clear ho
                              rcases m_ifE hf with ⟨-, hf⟩ | ⟨-, hf⟩
                              ·
                                exact pfq_t h_o19 (pf_X5_readInto_145   hf)
                              ·
                                exact pfq_t h_o19 (pf_X5_readInto_146   hf)
                        ·
                          exact pfq_t h_o16 (pf_X5_readInto_145   hf)
theorem pf_X5_readInto {o : Int32 × ZS} {x0 : Nat} {x1 : Nat} {x2 : Nat} {S : ZS}  {BB : ZS} (hBB : BB = zsI (zsP S 0 x0 (some x2)) 1 x0 0) (h_x0 : x0 = x) (h_x1 : x1 = bb) (hf : f_X5_readInto x0 x1 x2 S = some o) : PFq x bb BB o.2 := by
  have h_S : PFq x bb S S := pfq_0
  unfold f_X5_readInto at hf
  exact pf_X5_readInto_0 hBB h_x0 h_x1 hf
end PFG
