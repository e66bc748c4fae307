section
theorem fr_kind_0 {o : Int32 × MS} {x0 : Int32} {I : Nat → Int32} {A : Nat → Nat → Int32}  (hf : f_kind_0 x0 I A = some o) : FrS [] [] I A o.2.1 o.2.2 := by
  have hR : FrS [] [] I A I A := frs_0
  unfold f_kind_0 at hf
  obtain ⟨v1, ev, hf⟩ := m_bndE hf
  clear ev
  cases hf
  exact hR
theorem fr_kind {o : Int32 × MS} {x0 : Int32} {I : Nat → Int32} {A : Nat → Nat → Int32}  (hf : f_kind x0 I A = some o) : FrS [] [] I A o.2.1 o.2.2 := by
  have hR : FrS [] [] I A I A := frs_0
  unfold f_kind at hf
  exact frs_t hR (fr_kind_0  hf) (fun _ h => h) (fun _ h => h)
theorem fr_sideOf_11 {o : Int32 × MS} {t0 : Int32} {I : Nat → Int32} {A : Nat → Nat → Int32}  (hf : f_sideOf_11 t0 I A = some o) : FrS [] [] I A o.2.1 o.2.2 := by
  have hR : FrS [] [] I A I A := frs_0
  unfold f_sideOf_11 at hf
  cases hf
  exact hR
theorem fr_sideOf_0 {o : Int32 × MS} {x0 : Int32} {I : Nat → Int32} {A : Nat → Nat → Int32}  (hf : f_sideOf_0 x0 I A = some o) : FrS [] [] I A o.2.1 o.2.2 := by
  have hR : FrS [] [] I A I A := frs_0
  unfold f_sideOf_0 at hf
  rcases m_ifE hf with ⟨-, hf⟩ | ⟨-, hf⟩
  ·
    exact frs_t hR (fr_sideOf_11  hf) (fun _ h => h) (fun _ h => h)
  ·
    obtain ⟨v1, ev, hf⟩ := m_bndE hf
    clear ev
    exact frs_t hR (fr_sideOf_11  hf) (fun _ h => h) (fun _ h => h)
theorem fr_sideOf {o : Int32 × MS} {x0 : Int32} {I : Nat → Int32} {A : Nat → Nat → Int32}  (hf : f_sideOf x0 I A = some o) : FrS [] [] I A o.2.1 o.2.2 := by
  have hR : FrS [] [] I A I A := frs_0
  unfold f_sideOf at hf
  exact frs_t hR (fr_sideOf_0  hf) (fun _ h => h) (fun _ h => h)
theorem fr_step_48 {o : Int32 × MS} {t0 : Int32} {I : Nat → Int32} {A : Nat → Nat → Int32}  (hf : f_step_48 t0 I A = some o) : FrS [] [] I A o.2.1 o.2.2 := by
  have hR : FrS [] [] I A I A := frs_0
  unfold f_step_48 at hf
  cases hf
  exact hR
theorem fr_step_47 {o : Int32 × MS} {I : Nat → Int32} {A : Nat → Nat → Int32}  (hf : f_step_47 I A = some o) : FrS [] [] I A o.2.1 o.2.2 := by
  have hR : FrS [] [] I A I A := frs_0
  unfold f_step_47 at hf
  exact frs_t hR (fr_step_48  hf) (fun _ h => h) (fun _ h => h)
theorem fr_step_0 {o : Int32 × MS} {x0 : Int32} {x1 : Int32} {x2 : Int32} {I : Nat → Int32} {A : Nat → Nat → Int32}  (hf : f_step_0 x0 x1 x2 I A = some o) : FrS [] [] I A o.2.1 o.2.2 := by
  have hR : FrS [] [] I A I A := frs_0
  unfold f_step_0 at hf
  obtain ⟨v1, ev, hf⟩ := m_bndE hf
  clear ev
  obtain ⟨v2, ev, hf⟩ := m_bndE hf
  clear ev
  obtain ⟨v3, ev, hf⟩ := m_bndE hf
  clear ev
  obtain ⟨v4, ev, hf⟩ := m_bndE hf
  clear ev
  rcases m_ifE hf with ⟨-, hf⟩ | ⟨-, hf⟩
  ·
    exact frs_t hR (fr_step_47  hf) (fun _ h => h) (fun _ h => h)
  ·
    rcases m_ifE hf with ⟨-, hf⟩ | ⟨-, hf⟩
    ·
      exact frs_t hR (fr_step_47  hf) (fun _ h => h) (fun _ h => h)
    ·
      rcases m_ifE hf with ⟨-, hf⟩ | ⟨-, hf⟩
      ·
        exact frs_t hR (fr_step_47  hf) (fun _ h => h) (fun _ h => h)
      ·
        rcases m_ifE hf with ⟨-, hf⟩ | ⟨-, hf⟩
        ·
          exact frs_t hR (fr_step_47  hf) (fun _ h => h) (fun _ h => h)
        ·
          obtain ⟨v5, ev, hf⟩ := m_bndE hf
          clear ev
          obtain ⟨v6, ev, hf⟩ := m_bndE hf
          clear ev
          exact frs_t hR (fr_step_48  hf) (fun _ h => h) (fun _ h => h)
theorem fr_step {o : Int32 × MS} {x0 : Int32} {x1 : Int32} {x2 : Int32} {I : Nat → Int32} {A : Nat → Nat → Int32}  (hf : f_step x0 x1 x2 I A = some o) : FrS [] [] I A o.2.1 o.2.2 := by
  have hR : FrS [] [] I A I A := frs_0
  unfold f_step at hf
  exact frs_t hR (fr_step_0  hf) (fun _ h => h) (fun _ h => h)
theorem fr_stands_19 {o : Int32 × MS} {t0 : Int32} {I : Nat → Int32} {A : Nat → Nat → Int32}  (hf : f_stands_19 t0 I A = some o) : FrS [] [] I A o.2.1 o.2.2 := by
  have hR : FrS [] [] I A I A := frs_0
  unfold f_stands_19 at hf
  obtain ⟨-, hf⟩ := m_chkE hf
  cases hf
  exact hR
theorem fr_stands_18 {o : Int32 × MS} {I : Nat → Int32} {A : Nat → Nat → Int32}  (hf : f_stands_18 I A = some o) : FrS [] [] I A o.2.1 o.2.2 := by
  have hR : FrS [] [] I A I A := frs_0
  unfold f_stands_18 at hf
  exact frs_t hR (fr_stands_19  hf) (fun _ h => h) (fun _ h => h)
theorem fr_stands_0 {o : Int32 × MS} {x1 : Int32} {x2 : Int32} {I : Nat → Int32} {A : Nat → Nat → Int32}  (hf : f_stands_0 x1 x2 I A = some o) : FrS [] [] I A o.2.1 o.2.2 := by
  have hR : FrS [] [] I A I A := frs_0
  unfold f_stands_0 at hf
  rcases m_ifE hf with ⟨-, hf⟩ | ⟨-, hf⟩
  ·
    exact frs_t hR (fr_stands_18  hf) (fun _ h => h) (fun _ h => h)
  ·
    obtain ⟨-, hf⟩ := m_chkE hf
    obtain ⟨v1, ev, hf⟩ := m_bndE hf
    clear ev
    rcases m_ifE hf with ⟨-, hf⟩ | ⟨-, hf⟩
    ·
      exact frs_t hR (fr_stands_19  hf) (fun _ h => h) (fun _ h => h)
    ·
      exact frs_t hR (fr_stands_18  hf) (fun _ h => h) (fun _ h => h)
theorem fr_stands {o : Int32 × MS} {x1 : Int32} {x2 : Int32} {I : Nat → Int32} {A : Nat → Nat → Int32}  (hf : f_stands x1 x2 I A = some o) : FrS [] [] I A o.2.1 o.2.2 := by
  have hR : FrS [] [] I A I A := frs_0
  unfold f_stands at hf
  exact frs_t hR (fr_stands_0  hf) (fun _ h => h) (fun _ h => h)
theorem fr_met_51 {o : Int32 × MS} {t0 : Int32} {I : Nat → Int32} {A : Nat → Nat → Int32}  (hf : f_met_51 t0 I A = some o) : FrS [] [] I A o.2.1 o.2.2 := by
  have hR : FrS [] [] I A I A := frs_0
  unfold f_met_51 at hf
  cases hf
  exact hR
theorem fr_met_35 {o : Int32 × MS} {x4 : Int32} {I : Nat → Int32} {A : Nat → Nat → Int32}  (hf : f_met_35 x4 I A = some o) : FrS [] [] I A o.2.1 o.2.2 := by
  have hR : FrS [] [] I A I A := frs_0
  unfold f_met_35 at hf
  rcases m_ifE hf with ⟨-, hf⟩ | ⟨-, hf⟩
  ·
    obtain ⟨-, hf⟩ := m_chkE hf
    obtain ⟨v1, ev, hf⟩ := m_bndE hf
    clear ev
    exact frs_t hR (fr_met_51  hf) (fun _ h => h) (fun _ h => h)
  ·
    exact frs_t hR (fr_met_51  hf) (fun _ h => h) (fun _ h => h)
theorem fr_met_8s {o : Int32 × MS} {self8 : Int32 → Int32 → Int32 → (Nat → Int32) → (Nat → Nat → Int32) → Option (Int32 × MS)} {x2 : Int32} {x3 : Int32} {x4 : Int32} {I : Nat → Int32} {A : Nat → Nat → Int32} (hself8 : ∀ (z0 : Int32) (z1 : Int32) (z2 : Int32) (I : Nat → Int32) (A : Nat → Nat → Int32), self8 z0 z1 z2 I A = some o → FrS [] [] I A o.2.1 o.2.2) (hf : f_met_8s self8 x2 x3 x4 I A = some o) : FrS [] [] I A o.2.1 o.2.2 := by
  have hR : FrS [] [] I A I A := frs_0
  unfold f_met_8s at hf
  rcases m_ifE hf with ⟨-, hf⟩ | ⟨-, hf⟩
  ·
    exact frs_t hR (fr_met_35  hf) (fun _ h => h) (fun _ h => h)
  ·
    obtain ⟨-, hf⟩ := m_chkE hf
    obtain ⟨v1, ev, hf⟩ := m_bndE hf
    clear ev
    rcases m_ifE hf with ⟨-, hf⟩ | ⟨-, hf⟩
    ·
      obtain ⟨o2, ho, hf⟩ := m_clE hf
      replace hR := frs_t hR (fr_step ho) (by decide) (by decide)
      clear ho
      exact frs_t hR (hself8 _ _ _ _ _ hf) (fun _ h => h) (fun _ h => h)
    ·
      exact frs_t hR (fr_met_35  hf) (fun _ h => h) (fun _ h => h)
theorem fr_met_8 {o : Int32 × MS}   (n : Nat) : ∀ (y0 : Int32) (y1 : Int32) (y2 : Int32) (I : Nat → Int32) (A : Nat → Nat → Int32), f_met_8  n y0 y1 y2 I A = some o → FrS [] [] I A o.2.1 o.2.2 := by
  induction n with
  | zero => intro y0 y1 y2 I A hf; cases hf
  | succ n ih => intro y0 y1 y2 I A hf; exact fr_met_8s  ih hf
theorem fr_met_0 {o : Int32 × MS} {x1 : Int32} {x2 : Int32} {x3 : Int32} {I : Nat → Int32} {A : Nat → Nat → Int32}  (hf : f_met_0 x1 x2 x3 I A = some o) : FrS [] [] I A o.2.1 o.2.2 := by
  have hR : FrS [] [] I A I A := frs_0
  unfold f_met_0 at hf
  obtain ⟨o1, ho, hf⟩ := m_clE hf
  replace hR := frs_t hR (fr_step ho) (by decide) (by decide)
  clear ho
  exact frs_t hR (fr_met_8  _ _ _ _ _ _ hf) (fun _ h => h) (fun _ h => h)
theorem fr_met {o : Int32 × MS} {x1 : Int32} {x2 : Int32} {x3 : Int32} {I : Nat → Int32} {A : Nat → Nat → Int32}  (hf : f_met x1 x2 x3 I A = some o) : FrS [] [] I A o.2.1 o.2.2 := by
  have hR : FrS [] [] I A I A := frs_0
  unfold f_met at hf
  exact frs_t hR (fr_met_0  hf) (fun _ h => h) (fun _ h => h)
theorem fr_isAttacked_217 {o : Int32 × MS} {self61 : Int32 → Int32 → Int32 → Int32 → (Nat → Int32) → (Nat → Nat → Int32) → Option (Int32 × MS)} {self71 : Int32 → Int32 → Int32 → Int32 → Int32 → (Nat → Int32) → (Nat → Nat → Int32) → Option (Int32 × MS)} {x1 : Int32} {x3 : Int32} {x5 : Int32} {x6 : Int32} {x7 : Int32} {I : Nat → Int32} {A : Nat → Nat → Int32} (hself61 : ∀ (z0 : Int32) (z1 : Int32) (z2 : Int32) (z3 : Int32) (I : Nat → Int32) (A : Nat → Nat → Int32), self61 z0 z1 z2 z3 I A = some o → FrS [] [] I A o.2.1 o.2.2) (hself71 : ∀ (z0 : Int32) (z1 : Int32) (z2 : Int32) (z3 : Int32) (z4 : Int32) (I : Nat → Int32) (A : Nat → Nat → Int32), self71 z0 z1 z2 z3 z4 I A = some o → FrS [] [] I A o.2.1 o.2.2) (hf : f_isAttacked_217 self61 self71 x1 x3 x5 x6 x7 I A = some o) : FrS [] [] I A o.2.1 o.2.2 := by
  have hR : FrS [] [] I A I A := frs_0
  unfold f_isAttacked_217 at hf
  obtain ⟨v1, ev, hf⟩ := m_bndE hf
  clear ev
  exact frs_t hR (hself71 _ _ _ _ _ _ _ hf) (fun _ h => h) (fun _ h => h)
theorem fr_isAttacked_215 {o : Int32 × MS} {self61 : Int32 → Int32 → Int32 → Int32 → (Nat → Int32) → (Nat → Nat → Int32) → Option (Int32 × MS)} {self71 : Int32 → Int32 → Int32 → Int32 → Int32 → (Nat → Int32) → (Nat → Nat → Int32) → Option (Int32 × MS)} {x1 : Int32} {x3 : Int32} {x6 : Int32} {x7 : Int32} {t0 : Int32} {I : Nat → Int32} {A : Nat → Nat → Int32} (hself61 : ∀ (z0 : Int32) (z1 : Int32) (z2 : Int32) (z3 : Int32) (I : Nat → Int32) (A : Nat → Nat → Int32), self61 z0 z1 z2 z3 I A = some o → FrS [] [] I A o.2.1 o.2.2) (hself71 : ∀ (z0 : Int32) (z1 : Int32) (z2 : Int32) (z3 : Int32) (z4 : Int32) (I : Nat → Int32) (A : Nat → Nat → Int32), self71 z0 z1 z2 z3 z4 I A = some o → FrS [] [] I A o.2.1 o.2.2) (hf : f_isAttacked_215 self61 self71 x1 x3 x6 x7 t0 I A = some o) : FrS [] [] I A o.2.1 o.2.2 := by
  have hR : FrS [] [] I A I A := frs_0
  unfold f_isAttacked_215 at hf
  exact frs_t hR (fr_isAttacked_217 hself61 hself71 hf) (fun _ h => h) (fun _ h => h)
theorem fr_isAttacked_210 {o : Int32 × MS} {self61 : Int32 → Int32 → Int32 → Int32 → (Nat → Int32) → (Nat → Nat → Int32) → Option (Int32 × MS)} {self71 : Int32 → Int32 → Int32 → Int32 → Int32 → (Nat → Int32) → (Nat → Nat → Int32) → Option (Int32 × MS)} {x1 : Int32} {x3 : Int32} {x6 : Int32} {x7 : Int32} {I : Nat → Int32} {A : Nat → Nat → Int32} (hself61 : ∀ (z0 : Int32) (z1 : Int32) (z2 : Int32) (z3 : Int32) (I : Nat → Int32) (A : Nat → Nat → Int32), self61 z0 z1 z2 z3 I A = some o → FrS [] [] I A o.2.1 o.2.2) (hself71 : ∀ (z0 : Int32) (z1 : Int32) (z2 : Int32) (z3 : Int32) (z4 : Int32) (I : Nat → Int32) (A : Nat → Nat → Int32), self71 z0 z1 z2 z3 z4 I A = some o → FrS [] [] I A o.2.1 o.2.2) (hf : f_isAttacked_210 self61 self71 x1 x3 x6 x7 I A = some o) : FrS [] [] I A o.2.1 o.2.2 := by
  have hR : FrS [] [] I A I A := frs_0
  unfold f_isAttacked_210 at hf
  exact frs_t hR (fr_isAttacked_215 hself61 hself71 hf) (fun _ h => h) (fun _ h => h)
theorem fr_isAttacked_205 {o : Int32 × MS} {self61 : Int32 → Int32 → Int32 → Int32 → (Nat → Int32) → (Nat → Nat → Int32) → Option (Int32 × MS)} {self71 : Int32 → Int32 → Int32 → Int32 → Int32 → (Nat → Int32) → (Nat → Nat → Int32) → Option (Int32 × MS)} {x1 : Int32} {x3 : Int32} {x6 : Int32} {x7 : Int32} {t0 : Int32} {t1 : Int32} {I : Nat → Int32} {A : Nat → Nat → Int32} (hself61 : ∀ (z0 : Int32) (z1 : Int32) (z2 : Int32) (z3 : Int32) (I : Nat → Int32) (A : Nat → Nat → Int32), self61 z0 z1 z2 z3 I A = some o → FrS [] [] I A o.2.1 o.2.2) (hself71 : ∀ (z0 : Int32) (z1 : Int32) (z2 : Int32) (z3 : Int32) (z4 : Int32) (I : Nat → Int32) (A : Nat → Nat → Int32), self71 z0 z1 z2 z3 z4 I A = some o → FrS [] [] I A o.2.1 o.2.2) (hf : f_isAttacked_205 self61 self71 x1 x3 x6 x7 t0 t1 I A = some o) : FrS [] [] I A o.2.1 o.2.2 := by
  have hR : FrS [] [] I A I A := frs_0
  unfold f_isAttacked_205 at hf
  obtain ⟨v1, ev, hf⟩ := m_bndE hf
  clear ev
  rcases m_ifE hf with ⟨-, hf⟩ | ⟨-, hf⟩
  ·
    exact frs_t hR (fr_isAttacked_210 hself61 hself71 hf) (fun _ h => h) (fun _ h => h)
  ·
    exact frs_t hR (fr_isAttacked_215 hself61 hself71 hf) (fun _ h => h) (fun _ h => h)
theorem fr_isAttacked_168 {o : Int32 × MS} {self61 : Int32 → Int32 → Int32 → Int32 → (Nat → Int32) → (Nat → Nat → Int32) → Option (Int32 × MS)} {self71 : Int32 → Int32 → Int32 → Int32 → Int32 → (Nat → Int32) → (Nat → Nat → Int32) → Option (Int32 × MS)} {x1 : Int32} {x3 : Int32} {x5 : Int32} {x6 : Int32} {x7 : Int32} {x8 : Int32} {I : Nat → Int32} {A : Nat → Nat → Int32} (hself61 : ∀ (z0 : Int32) (z1 : Int32) (z2 : Int32) (z3 : Int32) (I : Nat → Int32) (A : Nat → Nat → Int32), self61 z0 z1 z2 z3 I A = some o → FrS [] [] I A o.2.1 o.2.2) (hself71 : ∀ (z0 : Int32) (z1 : Int32) (z2 : Int32) (z3 : Int32) (z4 : Int32) (I : Nat → Int32) (A : Nat → Nat → Int32), self71 z0 z1 z2 z3 z4 I A = some o → FrS [] [] I A o.2.1 o.2.2) (hf : f_isAttacked_168 self61 self71 x1 x3 x5 x6 x7 x8 I A = some o) : FrS [] [] I A o.2.1 o.2.2 := by
  have hR : FrS [] [] I A I A := frs_0
  unfold f_isAttacked_168 at hf
  obtain ⟨o1, ho, hf⟩ := m_clE hf
  replace hR := frs_t hR (fr_met ho) (by decide) (by decide)
  clear ho
  rcases m_ifE hf with ⟨-, hf⟩ | ⟨-, hf⟩
  ·
    obtain ⟨v2, ev, hf⟩ := m_bndE hf
    clear ev
    rcases m_ifE hf with ⟨-, hf⟩ | ⟨-, hf⟩
    ·
      exact frs_t hR (fr_isAttacked_210 hself61 hself71 hf) (fun _ h => h) (fun _ h => h)
    ·
      rcases m_ifE hf with ⟨-, hf⟩ | ⟨-, hf⟩
      ·
        exact frs_t hR (fr_isAttacked_205 hself61 hself71 hf) (fun _ h => h) (fun _ h => h)
      ·
        exact frs_t hR (fr_isAttacked_205 hself61 hself71 hf) (fun _ h => h) (fun _ h => h)
  ·
    exact frs_t hR (fr_isAttacked_210 hself61 hself71 hf) (fun _ h => h) (fun _ h => h)
theorem fr_isAttacked_154 {o : Int32 × MS} {self61 : Int32 → Int32 → Int32 → Int32 → (Nat → Int32) → (Nat → Nat → Int32) → Option (Int32 × MS)} {self71 : Int32 → Int32 → Int32 → Int32 → Int32 → (Nat → Int32) → (Nat → Nat → Int32) → Option (Int32 × MS)} {x1 : Int32} {x3 : Int32} {x6 : Int32} {x7 : Int32} {x8 : Int32} {t0 : Int32} {I : Nat → Int32} {A : Nat → Nat → Int32} (hself61 : ∀ (z0 : Int32) (z1 : Int32) (z2 : Int32) (z3 : Int32) (I : Nat → Int32) (A : Nat → Nat → Int32), self61 z0 z1 z2 z3 I A = some o → FrS [] [] I A o.2.1 o.2.2) (hself71 : ∀ (z0 : Int32) (z1 : Int32) (z2 : Int32) (z3 : Int32) (z4 : Int32) (I : Nat → Int32) (A : Nat → Nat → Int32), self71 z0 z1 z2 z3 z4 I A = some o → FrS [] [] I A o.2.1 o.2.2) (hf : f_isAttacked_154 self61 self71 x1 x3 x6 x7 x8 t0 I A = some o) : FrS [] [] I A o.2.1 o.2.2 := by
  have hR : FrS [] [] I A I A := frs_0
  unfold f_isAttacked_154 at hf
  rcases m_ifE hf with ⟨-, hf⟩ | ⟨-, hf⟩
  ·
    exact frs_t hR (fr_isAttacked_168 hself61 hself71 hf) (fun _ h => h) (fun _ h => h)
  ·
    rcases m_ifE hf with ⟨-, hf⟩ | ⟨-, hf⟩
    ·
      exact frs_t hR (fr_isAttacked_168 hself61 hself71 hf) (fun _ h => h) (fun _ h => h)
    ·
      exact frs_t hR (fr_isAttacked_217 hself61 hself71 hf) (fun _ h => h) (fun _ h => h)
theorem fr_isAttacked_149 {o : Int32 × MS} {self61 : Int32 → Int32 → Int32 → Int32 → (Nat → Int32) → (Nat → Nat → Int32) → Option (Int32 × MS)} {self71 : Int32 → Int32 → Int32 → Int32 → Int32 → (Nat → Int32) → (Nat → Nat → Int32) → Option (Int32 × MS)} {x1 : Int32} {x3 : Int32} {x6 : Int32} {x7 : Int32} {x8 : Int32} {I : Nat → Int32} {A : Nat → Nat → Int32} (hself61 : ∀ (z0 : Int32) (z1 : Int32) (z2 : Int32) (z3 : Int32) (I : Nat → Int32) (A : Nat → Nat → Int32), self61 z0 z1 z2 z3 I A = some o → FrS [] [] I A o.2.1 o.2.2) (hself71 : ∀ (z0 : Int32) (z1 : Int32) (z2 : Int32) (z3 : Int32) (z4 : Int32) (I : Nat → Int32) (A : Nat → Nat → Int32), self71 z0 z1 z2 z3 z4 I A = some o → FrS [] [] I A o.2.1 o.2.2) (hf : f_isAttacked_149 self61 self71 x1 x3 x6 x7 x8 I A = some o) : FrS [] [] I A o.2.1 o.2.2 := by
  have hR : FrS [] [] I A I A := frs_0
  unfold f_isAttacked_149 at hf
  exact frs_t hR (fr_isAttacked_154 hself61 hself71 hf) (fun _ h => h) (fun _ h => h)
theorem fr_isAttacked_153 {o : Int32 × MS} {self61 : Int32 → Int32 → Int32 → Int32 → (Nat → Int32) → (Nat → Nat → Int32) → Option (Int32 × MS)} {self71 : Int32 → Int32 → Int32 → Int32 → Int32 → (Nat → Int32) → (Nat → Nat → Int32) → Option (Int32 × MS)} {x1 : Int32} {x3 : Int32} {x6 : Int32} {x7 : Int32} {x8 : Int32} {I : Nat → Int32} {A : Nat → Nat → Int32} (hself61 : ∀ (z0 : Int32) (z1 : Int32) (z2 : Int32) (z3 : Int32) (I : Nat → Int32) (A : Nat → Nat → Int32), self61 z0 z1 z2 z3 I A = some o → FrS [] [] I A o.2.1 o.2.2) (hself71 : ∀ (z0 : Int32) (z1 : Int32) (z2 : Int32) (z3 : Int32) (z4 : Int32) (I : Nat → Int32) (A : Nat → Nat → Int32), self71 z0 z1 z2 z3 z4 I A = some o → FrS [] [] I A o.2.1 o.2.2) (hf : f_isAttacked_153 self61 self71 x1 x3 x6 x7 x8 I A = some o) : FrS [] [] I A o.2.1 o.2.2 := by
  have hR : FrS [] [] I A I A := frs_0
  unfold f_isAttacked_153 at hf
  exact frs_t hR (fr_isAttacked_154 hself61 hself71 hf) (fun _ h => h) (fun _ h => h)
theorem fr_isAttacked_119 {o : Int32 × MS} {self61 : Int32 → Int32 → Int32 → Int32 → (Nat → Int32) → (Nat → Nat → Int32) → Option (Int32 × MS)} {self71 : Int32 → Int32 → Int32 → Int32 → Int32 → (Nat → Int32) → (Nat → Nat → Int32) → Option (Int32 × MS)} {x1 : Int32} {x3 : Int32} {x6 : Int32} {x7 : Int32} {x8 : Int32} {I : Nat → Int32} {A : Nat → Nat → Int32} (hself61 : ∀ (z0 : Int32) (z1 : Int32) (z2 : Int32) (z3 : Int32) (I : Nat → Int32) (A : Nat → Nat → Int32), self61 z0 z1 z2 z3 I A = some o → FrS [] [] I A o.2.1 o.2.2) (hself71 : ∀ (z0 : Int32) (z1 : Int32) (z2 : Int32) (z3 : Int32) (z4 : Int32) (I : Nat → Int32) (A : Nat → Nat → Int32), self71 z0 z1 z2 z3 z4 I A = some o → FrS [] [] I A o.2.1 o.2.2) (hf : f_isAttacked_119 self61 self71 x1 x3 x6 x7 x8 I A = some o) : FrS [] [] I A o.2.1 o.2.2 := by
  have hR : FrS [] [] I A I A := frs_0
  unfold f_isAttacked_119 at hf
  rcases m_ifE hf with ⟨-, hf⟩ | ⟨-, hf⟩
  ·
    exact frs_t hR (fr_isAttacked_153 hself61 hself71 hf) (fun _ h => h) (fun _ h => h)
  ·
    rcases m_ifE hf with ⟨-, hf⟩ | ⟨-, hf⟩
    ·
      exact frs_t hR (fr_isAttacked_153 hself61 hself71 hf) (fun _ h => h) (fun _ h => h)
    ·
      obtain ⟨o1, ho, hf⟩ := m_clE hf
      replace hR := frs_t hR (fr_step ho) (by decide) (by decide)
      clear ho
      obtain ⟨v2, ev, hf⟩ := m_bndE hf
      clear ev
      obtain ⟨o3, ho, hf⟩ := m_clE hf
      replace hR := frs_t hR (fr_stands ho) (by decide) (by decide)
      clear ho
      rcases m_ifE hf with ⟨-, hf⟩ | ⟨-, hf⟩
      ·
        exact frs_t hR (fr_isAttacked_153 hself61 hself71 hf) (fun _ h => h) (fun _ h => h)
      ·
        exact frs_t hR (fr_isAttacked_149 hself61 hself71 hf) (fun _ h => h) (fun _ h => h)
theorem fr_isAttacked_71s {o : Int32 × MS} {self61 : Int32 → Int32 → Int32 → Int32 → (Nat → Int32) → (Nat → Nat → Int32) → Option (Int32 × MS)} {self71 : Int32 → Int32 → Int32 → Int32 → Int32 → (Nat → Int32) → (Nat → Nat → Int32) → Option (Int32 × MS)} {x1 : Int32} {x3 : Int32} {x5 : Int32} {x6 : Int32} {x7 : Int32} {I : Nat → Int32} {A : Nat → Nat → Int32} (hself61 : ∀ (z0 : Int32) (z1 : Int32) (z2 : Int32) (z3 : Int32) (I : Nat → Int32) (A : Nat → Nat → Int32), self61 z0 z1 z2 z3 I A = some o → FrS [] [] I A o.2.1 o.2.2) (hself71 : ∀ (z0 : Int32) (z1 : Int32) (z2 : Int32) (z3 : Int32) (z4 : Int32) (I : Nat → Int32) (A : Nat → Nat → Int32), self71 z0 z1 z2 z3 z4 I A = some o → FrS [] [] I A o.2.1 o.2.2) (hf : f_isAttacked_71s self61 self71 x1 x3 x5 x6 x7 I A = some o) : FrS [] [] I A o.2.1 o.2.2 := by
  have hR : FrS [] [] I A I A := frs_0
  unfold f_isAttacked_71s at hf
  rcases m_ifE hf with ⟨-, hf⟩ | ⟨-, hf⟩
  ·
    obtain ⟨v1, ev, hf⟩ := m_bndE hf
    clear ev
    exact frs_t hR (hself61 _ _ _ _ _ _ hf) (fun _ h => h) (fun _ h => h)
  ·
    obtain ⟨v2, ev, hf⟩ := m_bndE hf
    clear ev
    obtain ⟨v3, ev, hf⟩ := m_bndE hf
    clear ev
    obtain ⟨v4, ev, hf⟩ := m_bndE hf
    clear ev
    rcases m_ifE hf with ⟨-, hf⟩ | ⟨-, hf⟩
    ·
      rcases m_ifE hf with ⟨-, hf⟩ | ⟨-, hf⟩
      ·
        obtain ⟨o5, ho, hf⟩ := m_clE hf
        replace hR := frs_t hR (fr_step ho) (by decide) (by decide)
        clear ho
        obtain ⟨v6, ev, hf⟩ := m_bndE hf
        clear ev
        obtain ⟨o7, ho, hf⟩ := m_clE hf
        replace hR := frs_t hR (fr_stands ho) (by decide) (by decide)
        clear ho
        rcases m_ifE hf with ⟨-, hf⟩ | ⟨-, hf⟩
        ·
          exact frs_t hR (fr_isAttacked_119 hself61 hself71 hf) (fun _ h => h) (fun _ h => h)
        ·
          exact frs_t hR (fr_isAttacked_149 hself61 hself71 hf) (fun _ h => h) (fun _ h => h)
      ·
        exact frs_t hR (fr_isAttacked_119 hself61 hself71 hf) (fun _ h => h) (fun _ h => h)
    ·
      exact frs_t hR (fr_isAttacked_149 hself61 hself71 hf) (fun _ h => h) (fun _ h => h)
theorem fr_isAttacked_71 {o : Int32 × MS} {self61 : Int32 → Int32 → Int32 → Int32 → (Nat → Int32) → (Nat → Nat → Int32) → Option (Int32 × MS)} (hself61 : ∀ (z0 : Int32) (z1 : Int32) (z2 : Int32) (z3 : Int32) (I : Nat → Int32) (A : Nat → Nat → Int32), self61 z0 z1 z2 z3 I A = some o → FrS [] [] I A o.2.1 o.2.2) (n : Nat) : ∀ (y0 : Int32) (y1 : Int32) (y2 : Int32) (y3 : Int32) (y4 : Int32) (I : Nat → Int32) (A : Nat → Nat → Int32), f_isAttacked_71 self61 n y0 y1 y2 y3 y4 I A = some o → FrS [] [] I A o.2.1 o.2.2 := by
  induction n with
  | zero => intro y0 y1 y2 y3 y4 I A hf; cases hf
  | succ n ih => intro y0 y1 y2 y3 y4 I A hf; exact fr_isAttacked_71s hself61 ih hf
theorem fr_isAttacked_61s {o : Int32 × MS} {self61 : Int32 → Int32 → Int32 → Int32 → (Nat → Int32) → (Nat → Nat → Int32) → Option (Int32 × MS)} {x1 : Int32} {x3 : Int32} {x5 : Int32} {x6 : Int32} {I : Nat → Int32} {A : Nat → Nat → Int32} (hself61 : ∀ (z0 : Int32) (z1 : Int32) (z2 : Int32) (z3 : Int32) (I : Nat → Int32) (A : Nat → Nat → Int32), self61 z0 z1 z2 z3 I A = some o → FrS [] [] I A o.2.1 o.2.2) (hf : f_isAttacked_61s self61 x1 x3 x5 x6 I A = some o) : FrS [] [] I A o.2.1 o.2.2 := by
  have hR : FrS [] [] I A I A := frs_0
  unfold f_isAttacked_61s at hf
  rcases m_ifE hf with ⟨-, hf⟩ | ⟨-, hf⟩
  ·
    obtain ⟨-, hf⟩ := m_chkE hf
    cases hf
    exact hR
  ·
    exact frs_t hR (fr_isAttacked_71 hself61 _ _ _ _ _ _ _ _ hf) (fun _ h => h) (fun _ h => h)
theorem fr_isAttacked_61 {o : Int32 × MS}   (n : Nat) : ∀ (y0 : Int32) (y1 : Int32) (y2 : Int32) (y3 : Int32) (I : Nat → Int32) (A : Nat → Nat → Int32), f_isAttacked_61  n y0 y1 y2 y3 I A = some o → FrS [] [] I A o.2.1 o.2.2 := by
  induction n with
  | zero => intro y0 y1 y2 y3 I A hf; cases hf
  | succ n ih => intro y0 y1 y2 y3 I A hf; exact fr_isAttacked_61s  ih hf
theorem fr_isAttacked_55 {o : Int32 × MS} {x1 : Int32} {x3 : Int32} {t0 : Int32} {I : Nat → Int32} {A : Nat → Nat → Int32}  (hf : f_isAttacked_55 x1 x3 t0 I A = some o) : FrS [] [] I A o.2.1 o.2.2 := by
  have hR : FrS [] [] I A I A := frs_0
  unfold f_isAttacked_55 at hf
  exact frs_t hR (fr_isAttacked_61  _ _ _ _ _ _ _ hf) (fun _ h => h) (fun _ h => h)
theorem fr_isAttacked_50 {o : Int32 × MS} {x1 : Int32} {x3 : Int32} {I : Nat → Int32} {A : Nat → Nat → Int32}  (hf : f_isAttacked_50 x1 x3 I A = some o) : FrS [] [] I A o.2.1 o.2.2 := by
  have hR : FrS [] [] I A I A := frs_0
  unfold f_isAttacked_50 at hf
  exact frs_t hR (fr_isAttacked_55  hf) (fun _ h => h) (fun _ h => h)
theorem fr_isAttacked_14 {o : Int32 × MS} {x1 : Int32} {x3 : Int32} {t0 : Int32} {I : Nat → Int32} {A : Nat → Nat → Int32}  (hf : f_isAttacked_14 x1 x3 t0 I A = some o) : FrS [] [] I A o.2.1 o.2.2 := by
  have hR : FrS [] [] I A I A := frs_0
  unfold f_isAttacked_14 at hf
  obtain ⟨o1, ho, hf⟩ := m_clE hf
  replace hR := frs_t hR (fr_step ho) (by decide) (by decide)
  clear ho
  obtain ⟨v2, ev, hf⟩ := m_bndE hf
  clear ev
  obtain ⟨o3, ho, hf⟩ := m_clE hf
  replace hR := frs_t hR (fr_stands ho) (by decide) (by decide)
  clear ho
  rcases m_ifE hf with ⟨-, hf⟩ | ⟨-, hf⟩
  ·
    obtain ⟨o4, ho, hf⟩ := m_clE hf
    replace hR := frs_t hR (fr_step ho) (by decide) (by decide)
    clear ho
    obtain ⟨v5, ev, hf⟩ := m_bndE hf
    clear ev
    obtain ⟨o6, ho, hf⟩ := m_clE hf
    replace hR := frs_t hR (fr_stands ho) (by decide) (by decide)
    clear ho
    rcases m_ifE hf with ⟨-, hf⟩ | ⟨-, hf⟩
    ·
      exact frs_t hR (fr_isAttacked_55  hf) (fun _ h => h) (fun _ h => h)
    ·
      exact frs_t hR (fr_isAttacked_50  hf) (fun _ h => h) (fun _ h => h)
  ·
    exact frs_t hR (fr_isAttacked_50  hf) (fun _ h => h) (fun _ h => h)
theorem fr_isAttacked_0 {o : Int32 × MS} {x1 : Int32} {x2 : Int32} {I : Nat → Int32} {A : Nat → Nat → Int32}  (hf : f_isAttacked_0 x1 x2 I A = some o) : FrS [] [] I A o.2.1 o.2.2 := by
  have hR : FrS [] [] I A I A := frs_0
  unfold f_isAttacked_0 at hf
  obtain ⟨v1, ev, hf⟩ := m_bndE hf
  clear ev
  rcases m_ifE hf with ⟨-, hf⟩ | ⟨-, hf⟩
  ·
    exact frs_t hR (fr_isAttacked_14  hf) (fun _ h => h) (fun _ h => h)
  ·
    exact frs_t hR (fr_isAttacked_14  hf) (fun _ h => h) (fun _ h => h)
theorem fr_isAttacked {o : Int32 × MS} {x1 : Int32} {x2 : Int32} {I : Nat → Int32} {A : Nat → Nat → Int32}  (hf : f_isAttacked x1 x2 I A = some o) : FrS [] [] I A o.2.1 o.2.2 := by
  have hR : FrS [] [] I A I A := frs_0
  unfold f_isAttacked at hf
  exact frs_t hR (fr_isAttacked_0  hf) (fun _ h => h) (fun _ h => h)
theorem fr_kingOf_31 {o : Int32 × MS} {self4 : Int32 → Int32 → Int32 → (Nat → Int32) → (Nat → Nat → Int32) → Option (Int32 × MS)} {x1 : Int32} {x3 : Int32} {t0 : Int32} {I : Nat → Int32} {A : Nat → Nat → Int32} (hself4 : ∀ (z0 : Int32) (z1 : Int32) (z2 : Int32) (I : Nat → Int32) (A : Nat → Nat → Int32), self4 z0 z1 z2 I A = some o → FrS [] [] I A o.2.1 o.2.2) (hf : f_kingOf_31 self4 x1 x3 t0 I A = some o) : FrS [] [] I A o.2.1 o.2.2 := by
  have hR : FrS [] [] I A I A := frs_0
  unfold f_kingOf_31 at hf
  obtain ⟨v1, ev, hf⟩ := m_bndE hf
  clear ev
  exact frs_t hR (hself4 _ _ _ _ _ hf) (fun _ h => h) (fun _ h => h)
theorem fr_kingOf_4s {o : Int32 × MS} {self4 : Int32 → Int32 → Int32 → (Nat → Int32) → (Nat → Nat → Int32) → Option (Int32 × MS)} {x1 : Int32} {x2 : Int32} {x3 : Int32} {I : Nat → Int32} {A : Nat → Nat → Int32} (hself4 : ∀ (z0 : Int32) (z1 : Int32) (z2 : Int32) (I : Nat → Int32) (A : Nat → Nat → Int32), self4 z0 z1 z2 I A = some o → FrS [] [] I A o.2.1 o.2.2) (hf : f_kingOf_4s self4 x1 x2 x3 I A = some o) : FrS [] [] I A o.2.1 o.2.2 := by
  have hR : FrS [] [] I A I A := frs_0
  unfold f_kingOf_4s at hf
  rcases m_ifE hf with ⟨-, hf⟩ | ⟨-, hf⟩
  ·
    cases hf
    exact hR
  ·
    obtain ⟨-, hf⟩ := m_chkE hf
    obtain ⟨v1, ev, hf⟩ := m_bndE hf
    clear ev
    obtain ⟨v2, ev, hf⟩ := m_bndE hf
    clear ev
    obtain ⟨v3, ev, hf⟩ := m_bndE hf
    clear ev
    rcases m_ifE hf with ⟨-, hf⟩ | ⟨-, hf⟩
    ·
      exact frs_t hR (fr_kingOf_31 hself4 hf) (fun _ h => h) (fun _ h => h)
    ·
      exact frs_t hR (fr_kingOf_31 hself4 hf) (fun _ h => h) (fun _ h => h)
theorem fr_kingOf_4 {o : Int32 × MS}   (n : Nat) : ∀ (y0 : Int32) (y1 : Int32) (y2 : Int32) (I : Nat → Int32) (A : Nat → Nat → Int32), f_kingOf_4  n y0 y1 y2 I A = some o → FrS [] [] I A o.2.1 o.2.2 := by
  induction n with
  | zero => intro y0 y1 y2 I A hf; cases hf
  | succ n ih => intro y0 y1 y2 I A hf; exact fr_kingOf_4s  ih hf
theorem fr_kingOf_0 {o : Int32 × MS} {x1 : Int32} {I : Nat → Int32} {A : Nat → Nat → Int32}  (hf : f_kingOf_0 x1 I A = some o) : FrS [] [] I A o.2.1 o.2.2 := by
  have hR : FrS [] [] I A I A := frs_0
  unfold f_kingOf_0 at hf
  exact frs_t hR (fr_kingOf_4  _ _ _ _ _ _ hf) (fun _ h => h) (fun _ h => h)
theorem fr_kingOf {o : Int32 × MS} {x1 : Int32} {I : Nat → Int32} {A : Nat → Nat → Int32}  (hf : f_kingOf x1 I A = some o) : FrS [] [] I A o.2.1 o.2.2 := by
  have hR : FrS [] [] I A I A := frs_0
  unfold f_kingOf at hf
  exact frs_t hR (fr_kingOf_0  hf) (fun _ h => h) (fun _ h => h)
theorem fr_isInCheck_0 {o : Int32 × MS} {x1 : Int32} {I : Nat → Int32} {A : Nat → Nat → Int32}  (hf : f_isInCheck_0 x1 I A = some o) : FrS [] [] I A o.2.1 o.2.2 := by
  have hR : FrS [] [] I A I A := frs_0
  unfold f_isInCheck_0 at hf
  obtain ⟨o1, ho, hf⟩ := m_clE hf
  replace hR := frs_t hR (fr_kingOf ho) (by decide) (by decide)
  clear ho
  obtain ⟨v2, ev, hf⟩ := m_bndE hf
  clear ev
  obtain ⟨o3, ho, hf⟩ := m_clE hf
  replace hR := frs_t hR (fr_isAttacked ho) (by decide) (by decide)
  clear ho
  obtain ⟨-, hf⟩ := m_chkE hf
  cases hf
  exact hR
theorem fr_isInCheck {o : Int32 × MS} {x1 : Int32} {I : Nat → Int32} {A : Nat → Nat → Int32}  (hf : f_isInCheck x1 I A = some o) : FrS [] [] I A o.2.1 o.2.2 := by
  have hR : FrS [] [] I A I A := frs_0
  unfold f_isInCheck at hf
  exact frs_t hR (fr_isInCheck_0  hf) (fun _ h => h) (fun _ h => h)
theorem fr_lose_60 {o : Int32 × MS} {t0 : Int32} {I : Nat → Int32} {A : Nat → Nat → Int32}  (hf : f_lose_60 t0 I A = some o) : FrS [26] [] I A o.2.1 o.2.2 := by
  have hR : FrS [26] [] I A I A := frs_0
  unfold f_lose_60 at hf
  obtain ⟨v1, ev, hf⟩ := m_bndE hf
  clear ev
  obtain ⟨v2, ev, hf⟩ := m_bndE hf
  clear ev
  obtain ⟨I3, ev, hf⟩ := m_bndE hf
  replace hR := frs_I hR (by decide) ev
  clear ev
  cases hf
  exact hR
theorem fr_lose_0 {o : Int32 × MS} {x1 : Int32} {I : Nat → Int32} {A : Nat → Nat → Int32}  (hf : f_lose_0 x1 I A = some o) : FrS [26] [] I A o.2.1 o.2.2 := by
  have hR : FrS [26] [] I A I A := frs_0
  unfold f_lose_0 at hf
  rcases m_ifE hf with ⟨-, hf⟩ | ⟨-, hf⟩
  ·
    exact frs_t hR (fr_lose_60  hf) (fun _ h => h) (fun _ h => h)
  ·
    rcases m_ifE hf with ⟨-, hf⟩ | ⟨-, hf⟩
    ·
      exact frs_t hR (fr_lose_60  hf) (fun _ h => h) (fun _ h => h)
    ·
      rcases m_ifE hf with ⟨-, hf⟩ | ⟨-, hf⟩
      ·
        exact frs_t hR (fr_lose_60  hf) (fun _ h => h) (fun _ h => h)
      ·
        rcases m_ifE hf with ⟨-, hf⟩ | ⟨-, hf⟩
        ·
          exact frs_t hR (fr_lose_60  hf) (fun _ h => h) (fun _ h => h)
        ·
          rcases m_ifE hf with ⟨-, hf⟩ | ⟨-, hf⟩
          ·
            exact frs_t hR (fr_lose_60  hf) (fun _ h => h) (fun _ h => h)
          ·
            rcases m_ifE hf with ⟨-, hf⟩ | ⟨-, hf⟩
            ·
              exact frs_t hR (fr_lose_60  hf) (fun _ h => h) (fun _ h => h)
            ·
              exact frs_t hR (fr_lose_60  hf) (fun _ h => h) (fun _ h => h)
theorem fr_lose {o : Int32 × MS} {x1 : Int32} {I : Nat → Int32} {A : Nat → Nat → Int32}  (hf : f_lose x1 I A = some o) : FrS [26] [] I A o.2.1 o.2.2 := by
  have hR : FrS [26] [] I A I A := frs_0
  unfold f_lose at hf
  exact frs_t hR (fr_lose_0  hf) (fun _ h => h) (fun _ h => h)
theorem fr_isTaking_51 {o : Int32 × MS} {t0 : Int32} {I : Nat → Int32} {A : Nat → Nat → Int32}  (hf : f_isTaking_51 t0 I A = some o) : FrS [] [] I A o.2.1 o.2.2 := by
  have hR : FrS [] [] I A I A := frs_0
  unfold f_isTaking_51 at hf
  obtain ⟨-, hf⟩ := m_chkE hf
  cases hf
  exact hR
theorem fr_isTaking_46 {o : Int32 × MS} {I : Nat → Int32} {A : Nat → Nat → Int32}  (hf : f_isTaking_46 I A = some o) : FrS [] [] I A o.2.1 o.2.2 := by
  have hR : FrS [] [] I A I A := frs_0
  unfold f_isTaking_46 at hf
  exact frs_t hR (fr_isTaking_51  hf) (fun _ h => h) (fun _ h => h)
theorem fr_isTaking_50 {o : Int32 × MS} {I : Nat → Int32} {A : Nat → Nat → Int32}  (hf : f_isTaking_50 I A = some o) : FrS [] [] I A o.2.1 o.2.2 := by
  have hR : FrS [] [] I A I A := frs_0
  unfold f_isTaking_50 at hf
  exact frs_t hR (fr_isTaking_51  hf) (fun _ h => h) (fun _ h => h)
theorem fr_isTaking_0 {o : Int32 × MS} {x1 : Int32} {I : Nat → Int32} {A : Nat → Nat → Int32}  (hf : f_isTaking_0 x1 I A = some o) : FrS [] [] I A o.2.1 o.2.2 := by
  have hR : FrS [] [] I A I A := frs_0
  unfold f_isTaking_0 at hf
  obtain ⟨v1, ev, hf⟩ := m_bndE hf
  clear ev
  obtain ⟨v2, ev, hf⟩ := m_bndE hf
  clear ev
  obtain ⟨v3, ev, hf⟩ := m_bndE hf
  clear ev
  obtain ⟨-, hf⟩ := m_chkE hf
  obtain ⟨v4, ev, hf⟩ := m_bndE hf
  clear ev
  rcases m_ifE hf with ⟨-, hf⟩ | ⟨-, hf⟩
  ·
    obtain ⟨-, hf⟩ := m_chkE hf
    obtain ⟨v5, ev, hf⟩ := m_bndE hf
    clear ev
    obtain ⟨o6, ho, hf⟩ := m_clE hf
    replace hR := frs_t hR (fr_kind ho) (by decide) (by decide)
    clear ho
    rcases m_ifE hf with ⟨-, hf⟩ | ⟨-, hf⟩
    ·
      obtain ⟨v7, ev, hf⟩ := m_bndE hf
      clear ev
      obtain ⟨v8, ev, hf⟩ := m_bndE hf
      clear ev
      rcases m_ifE hf with ⟨-, hf⟩ | ⟨-, hf⟩
      ·
        exact frs_t hR (fr_isTaking_50  hf) (fun _ h => h) (fun _ h => h)
      ·
        exact frs_t hR (fr_isTaking_46  hf) (fun _ h => h) (fun _ h => h)
    ·
      exact frs_t hR (fr_isTaking_50  hf) (fun _ h => h) (fun _ h => h)
  ·
    exact frs_t hR (fr_isTaking_46  hf) (fun _ h => h) (fun _ h => h)
theorem fr_isTaking {o : Int32 × MS} {x1 : Int32} {I : Nat → Int32} {A : Nat → Nat → Int32}  (hf : f_isTaking x1 I A = some o) : FrS [] [] I A o.2.1 o.2.2 := by
  have hR : FrS [] [] I A I A := frs_0
  unfold f_isTaking at hf
  exact frs_t hR (fr_isTaking_0  hf) (fun _ h => h) (fun _ h => h)
theorem fr_make_319 {o : Int32 × MS} {I : Nat → Int32} {A : Nat → Nat → Int32}  (hf : f_make_319 I A = some o) : FrS [25, 26, 27, 28, 29] [24] I A o.2.1 o.2.2 := by
  have hR : FrS [25, 26, 27, 28, 29] [24] I A I A := frs_0
  unfold f_make_319 at hf
  obtain ⟨v1, ev, hf⟩ := m_bndE hf
  clear ev
  obtain ⟨I2, ev, hf⟩ := m_bndE hf
  replace hR := frs_I hR (by decide) ev
  clear ev
  obtain ⟨v3, ev, hf⟩ := m_bndE hf
  clear ev
  obtain ⟨I4, ev, hf⟩ := m_bndE hf
  replace hR := frs_I hR (by decide) ev
  clear ev
  cases hf
  exact hR
theorem fr_make_316 {o : Int32 × MS} {t0 : Int32} {I : Nat → Int32} {A : Nat → Nat → Int32}  (hf : f_make_316 t0 I A = some o) : FrS [25, 26, 27, 28, 29] [24] I A o.2.1 o.2.2 := by
  have hR : FrS [25, 26, 27, 28, 29] [24] I A I A := frs_0
  unfold f_make_316 at hf
  obtain ⟨I1, ev, hf⟩ := m_bndE hf
  replace hR := frs_I hR (by decide) ev
  clear ev
  exact frs_t hR (fr_make_319  hf) (fun _ h => h) (fun _ h => h)
theorem fr_make_307 {o : Int32 × MS} {x2 : Int32} {x3 : Int32} {I : Nat → Int32} {A : Nat → Nat → Int32}  (hf : f_make_307 x2 x3 I A = some o) : FrS [25, 26, 27, 28, 29] [24] I A o.2.1 o.2.2 := by
  have hR : FrS [25, 26, 27, 28, 29] [24] I A I A := frs_0
  unfold f_make_307 at hf
  obtain ⟨v1, ev, hf⟩ := m_bndE hf
  clear ev
  obtain ⟨v2, ev, hf⟩ := m_bndE hf
  clear ev
  exact frs_t hR (fr_make_316  hf) (fun _ h => h) (fun _ h => h)
theorem fr_make_263 {o : Int32 × MS} {x2 : Int32} {x3 : Int32} {I : Nat → Int32} {A : Nat → Nat → Int32}  (hf : f_make_263 x2 x3 I A = some o) : FrS [25, 26, 27, 28, 29] [24] I A o.2.1 o.2.2 := by
  have hR : FrS [25, 26, 27, 28, 29] [24] I A I A := frs_0
  unfold f_make_263 at hf
  obtain ⟨v1, ev, hf⟩ := m_bndE hf
  clear ev
  obtain ⟨v2, ev, hf⟩ := m_bndE hf
  clear ev
  obtain ⟨v3, ev, hf⟩ := m_bndE hf
  clear ev
  obtain ⟨o4, ho, hf⟩ := m_clE hf
  replace hR := frs_t hR (fr_step ho) (by decide) (by decide)
  clear ho
  obtain ⟨o5, ho, hf⟩ := m_clE hf
  replace hR := frs_t hR (fr_stands ho) (by decide) (by decide)
  clear ho
  rcases m_ifE hf with ⟨-, hf⟩ | ⟨-, hf⟩
  ·
    obtain ⟨o6, ho, hf⟩ := m_clE hf
    replace hR := frs_t hR (fr_step ho) (by decide) (by decide)
    clear ho
    obtain ⟨o7, ho, hf⟩ := m_clE hf
    replace hR := frs_t hR (fr_stands ho) (by decide) (by decide)
    clear ho
    rcases m_ifE hf with ⟨-, hf⟩ | ⟨-, hf⟩
    ·
      exact frs_t hR (fr_make_316  hf) (fun _ h => h) (fun _ h => h)
    ·
      exact frs_t hR (fr_make_307  hf) (fun _ h => h) (fun _ h => h)
  ·
    exact frs_t hR (fr_make_307  hf) (fun _ h => h) (fun _ h => h)
theorem fr_make_226 {o : Int32 × MS} {x2 : Int32} {x3 : Int32} {x6 : Int32} {t0 : Int32} {t1 : Int32} {I : Nat → Int32} {A : Nat → Nat → Int32}  (hf : f_make_226 x2 x3 x6 t0 t1 I A = some o) : FrS [25, 26, 27, 28, 29] [24] I A o.2.1 o.2.2 := by
  have hR : FrS [25, 26, 27, 28, 29] [24] I A I A := frs_0
  unfold f_make_226 at hf
  obtain ⟨-, hf⟩ := m_chkE hf
  obtain ⟨A1, ev, hf⟩ := m_bndE hf
  replace hR := frs_A hR (by decide) ev
  clear ev
  obtain ⟨o2, ho, hf⟩ := m_clE hf
  replace hR := frs_t hR (fr_lose ho) (by decide) (by decide)
  clear ho
  obtain ⟨o3, ho, hf⟩ := m_clE hf
  replace hR := frs_t hR (fr_lose ho) (by decide) (by decide)
  clear ho
  obtain ⟨I4, ev, hf⟩ := m_bndE hf
  replace hR := frs_I hR (by decide) ev
  clear ev
  rcases m_ifE hf with ⟨-, hf⟩ | ⟨-, hf⟩
  ·
    exact frs_t hR (fr_make_319  hf) (fun _ h => h) (fun _ h => h)
  ·
    obtain ⟨v5, ev, hf⟩ := m_bndE hf
    clear ev
    rcases m_ifE hf with ⟨-, hf⟩ | ⟨-, hf⟩
    ·
      exact frs_t hR (fr_make_263  hf) (fun _ h => h) (fun _ h => h)
    ·
      obtain ⟨v6, ev, hf⟩ := m_bndE hf
      clear ev
      rcases m_ifE hf with ⟨-, hf⟩ | ⟨-, hf⟩
      ·
        exact frs_t hR (fr_make_263  hf) (fun _ h => h) (fun _ h => h)
      ·
        exact frs_t hR (fr_make_319  hf) (fun _ h => h) (fun _ h => h)
theorem fr_make_194 {o : Int32 × MS} {x2 : Int32} {x3 : Int32} {x4 : Int32} {x5 : Int32} {x6 : Int32} {I : Nat → Int32} {A : Nat → Nat → Int32}  (hf : f_make_194 x2 x3 x4 x5 x6 I A = some o) : FrS [25, 26, 27, 28, 29] [24] I A o.2.1 o.2.2 := by
  have hR : FrS [25, 26, 27, 28, 29] [24] I A I A := frs_0
  unfold f_make_194 at hf
  obtain ⟨-, hf⟩ := m_chkE hf
  obtain ⟨A1, ev, hf⟩ := m_bndE hf
  replace hR := frs_A hR (by decide) ev
  clear ev
  rcases m_ifE hf with ⟨-, hf⟩ | ⟨-, hf⟩
  ·
    exact frs_t hR (fr_make_226  hf) (fun _ h => h) (fun _ h => h)
  ·
    obtain ⟨v2, ev, hf⟩ := m_bndE hf
    clear ev
    obtain ⟨v3, ev, hf⟩ := m_bndE hf
    clear ev
    exact frs_t hR (fr_make_226  hf) (fun _ h => h) (fun _ h => h)
theorem fr_make_167 {o : Int32 × MS} {x2 : Int32} {x3 : Int32} {x4 : Int32} {x5 : Int32} {x6 : Int32} {t0 : Int32} {I : Nat → Int32} {A : Nat → Nat → Int32}  (hf : f_make_167 x2 x3 x4 x5 x6 t0 I A = some o) : FrS [25, 26, 27, 28, 29] [24] I A o.2.1 o.2.2 := by
  have hR : FrS [25, 26, 27, 28, 29] [24] I A I A := frs_0
  unfold f_make_167 at hf
  obtain ⟨v1, ev, hf⟩ := m_bndE hf
  clear ev
  obtain ⟨v2, ev, hf⟩ := m_bndE hf
  clear ev
  obtain ⟨-, hf⟩ := m_chkE hf
  obtain ⟨v3, ev, hf⟩ := m_bndE hf
  clear ev
  obtain ⟨-, hf⟩ := m_chkE hf
  obtain ⟨A4, ev, hf⟩ := m_bndE hf
  replace hR := frs_A hR (by decide) ev
  clear ev
  obtain ⟨-, hf⟩ := m_chkE hf
  obtain ⟨A5, ev, hf⟩ := m_bndE hf
  replace hR := frs_A hR (by decide) ev
  clear ev
  exact frs_t hR (fr_make_194  hf) (fun _ h => h) (fun _ h => h)
theorem fr_make_149 {o : Int32 × MS} {x2 : Int32} {x3 : Int32} {x4 : Int32} {x5 : Int32} {x6 : Int32} {I : Nat → Int32} {A : Nat → Nat → Int32}  (hf : f_make_149 x2 x3 x4 x5 x6 I A = some o) : FrS [25, 26, 27, 28, 29] [24] I A o.2.1 o.2.2 := by
  have hR : FrS [25, 26, 27, 28, 29] [24] I A I A := frs_0
  unfold f_make_149 at hf
  obtain ⟨v1, ev, hf⟩ := m_bndE hf
  clear ev
  rcases m_ifE hf with ⟨-, hf⟩ | ⟨-, hf⟩
  ·
    obtain ⟨v3, ev, hf⟩ := m_bndE hf
    clear ev
    exact frs_t hR (fr_make_167  hf) (fun _ h => h) (fun _ h => h)
  ·
    obtain ⟨v2, ev, hf⟩ := m_bndE hf
    clear ev
    exact frs_t hR (fr_make_167  hf) (fun _ h => h) (fun _ h => h)
theorem fr_make_114 {o : Int32 × MS} {x2 : Int32} {x3 : Int32} {x4 : Int32} {x5 : Int32} {x6 : Int32} {I : Nat → Int32} {A : Nat → Nat → Int32}  (hf : f_make_114 x2 x3 x4 x5 x6 I A = some o) : FrS [25, 26, 27, 28, 29] [24] I A o.2.1 o.2.2 := by
  have hR : FrS [25, 26, 27, 28, 29] [24] I A I A := frs_0
  unfold f_make_114 at hf
  obtain ⟨o1, ho, hf⟩ := m_clE hf
  replace hR := frs_t hR (fr_kind ho) (by decide) (by decide)
  clear ho
  rcases m_ifE hf with ⟨-, hf⟩ | ⟨-, hf⟩
  ·
    obtain ⟨v2, ev, hf⟩ := m_bndE hf
    clear ev
    rcases m_ifE hf with ⟨-, hf⟩ | ⟨-, hf⟩
    ·
      obtain ⟨v3, ev, hf⟩ := m_bndE hf
      clear ev
      rcases m_ifE hf with ⟨-, hf⟩ | ⟨-, hf⟩
      ·
        exact frs_t hR (fr_make_149  hf) (fun _ h => h) (fun _ h => h)
      ·
        obtain ⟨v4, ev, hf⟩ := m_bndE hf
        clear ev
        rcases m_ifE hf with ⟨-, hf⟩ | ⟨-, hf⟩
        ·
          exact frs_t hR (fr_make_149  hf) (fun _ h => h) (fun _ h => h)
        ·
          exact frs_t hR (fr_make_194  hf) (fun _ h => h) (fun _ h => h)
    ·
      exact frs_t hR (fr_make_194  hf) (fun _ h => h) (fun _ h => h)
  ·
    exact frs_t hR (fr_make_194  hf) (fun _ h => h) (fun _ h => h)
theorem fr_make_68 {o : Int32 × MS} {x2 : Int32} {x3 : Int32} {x4 : Int32} {x5 : Int32} {x6 : Int32} {t0 : Int32} {I : Nat → Int32} {A : Nat → Nat → Int32}  (hf : f_make_68 x2 x3 x4 x5 x6 t0 I A = some o) : FrS [25, 26, 27, 28, 29] [24] I A o.2.1 o.2.2 := by
  have hR : FrS [25, 26, 27, 28, 29] [24] I A I A := frs_0
  unfold f_make_68 at hf
  obtain ⟨I1, ev, hf⟩ := m_bndE hf
  replace hR := frs_I hR (by decide) ev
  clear ev
  rcases m_ifE hf with ⟨-, hf⟩ | ⟨-, hf⟩
  ·
    exact frs_t hR (fr_make_114  hf) (fun _ h => h) (fun _ h => h)
  ·
    obtain ⟨-, hf⟩ := m_chkE hf
    obtain ⟨v2, ev, hf⟩ := m_bndE hf
    clear ev
    rcases m_ifE hf with ⟨-, hf⟩ | ⟨-, hf⟩
    ·
      obtain ⟨v3, ev, hf⟩ := m_bndE hf
      clear ev
      obtain ⟨v4, ev, hf⟩ := m_bndE hf
      clear ev
      rcases m_ifE hf with ⟨-, hf⟩ | ⟨-, hf⟩
      ·
        exact frs_t hR (fr_make_114  hf) (fun _ h => h) (fun _ h => h)
      ·
        obtain ⟨v5, ev, hf⟩ := m_bndE hf
        clear ev
        obtain ⟨v6, ev, hf⟩ := m_bndE hf
        clear ev
        obtain ⟨v7, ev, hf⟩ := m_bndE hf
        clear ev
        obtain ⟨v8, ev, hf⟩ := m_bndE hf
        clear ev
        obtain ⟨-, hf⟩ := m_chkE hf
        obtain ⟨A9, ev, hf⟩ := m_bndE hf
        replace hR := frs_A hR (by decide) ev
        clear ev
        exact frs_t hR (fr_make_114  hf) (fun _ h => h) (fun _ h => h)
    ·
      exact frs_t hR (fr_make_114  hf) (fun _ h => h) (fun _ h => h)
theorem fr_make_58 {o : Int32 × MS} {x2 : Int32} {x3 : Int32} {x4 : Int32} {x5 : Int32} {x6 : Int32} {I : Nat → Int32} {A : Nat → Nat → Int32}  (hf : f_make_58 x2 x3 x4 x5 x6 I A = some o) : FrS [25, 26, 27, 28, 29] [24] I A o.2.1 o.2.2 := by
  have hR : FrS [25, 26, 27, 28, 29] [24] I A I A := frs_0
  unfold f_make_58 at hf
  exact frs_t hR (fr_make_68  hf) (fun _ h => h) (fun _ h => h)
theorem fr_make_42 {o : Int32 × MS} {x1 : Int32} {x2 : Int32} {x3 : Int32} {x4 : Int32} {x5 : Int32} {t0 : Int32} {I : Nat → Int32} {A : Nat → Nat → Int32}  (hf : f_make_42 x1 x2 x3 x4 x5 t0 I A = some o) : FrS [25, 26, 27, 28, 29] [24] I A o.2.1 o.2.2 := by
  have hR : FrS [25, 26, 27, 28, 29] [24] I A I A := frs_0
  unfold f_make_42 at hf
  rcases m_ifE hf with ⟨-, hf⟩ | ⟨-, hf⟩
  ·
    obtain ⟨o1, ho, hf⟩ := m_clE hf
    replace hR := frs_t hR (fr_isTaking ho) (by decide) (by decide)
    clear ho
    rcases m_ifE hf with ⟨-, hf⟩ | ⟨-, hf⟩
    ·
      obtain ⟨v2, ev, hf⟩ := m_bndE hf
      clear ev
      exact frs_t hR (fr_make_68  hf) (fun _ h => h) (fun _ h => h)
    ·
      exact frs_t hR (fr_make_58  hf) (fun _ h => h) (fun _ h => h)
  ·
    exact frs_t hR (fr_make_58  hf) (fun _ h => h) (fun _ h => h)
theorem fr_make_0 {o : Int32 × MS} {x1 : Int32} {I : Nat → Int32} {A : Nat → Nat → Int32}  (hf : f_make_0 x1 I A = some o) : FrS [25, 26, 27, 28, 29] [24] I A o.2.1 o.2.2 := by
  have hR : FrS [25, 26, 27, 28, 29] [24] I A I A := frs_0
  unfold f_make_0 at hf
  obtain ⟨v1, ev, hf⟩ := m_bndE hf
  clear ev
  obtain ⟨v2, ev, hf⟩ := m_bndE hf
  clear ev
  obtain ⟨v3, ev, hf⟩ := m_bndE hf
  clear ev
  obtain ⟨v4, ev, hf⟩ := m_bndE hf
  clear ev
  obtain ⟨-, hf⟩ := m_chkE hf
  obtain ⟨v5, ev, hf⟩ := m_bndE hf
  clear ev
  obtain ⟨o6, ho, hf⟩ := m_clE hf
  replace hR := frs_t hR (fr_kind ho) (by decide) (by decide)
  clear ho
  rcases m_ifE hf with ⟨-, hf⟩ | ⟨-, hf⟩
  ·
    exact frs_t hR (fr_make_42  hf) (fun _ h => h) (fun _ h => h)
  ·
    exact frs_t hR (fr_make_42  hf) (fun _ h => h) (fun _ h => h)
theorem fr_make {o : Int32 × MS} {x1 : Int32} {I : Nat → Int32} {A : Nat → Nat → Int32}  (hf : f_make x1 I A = some o) : FrS [25, 26, 27, 28, 29] [24] I A o.2.1 o.2.2 := by
  have hR : FrS [25, 26, 27, 28, 29] [24] I A I A := frs_0
  unfold f_make at hf
  exact frs_t hR (fr_make_0  hf) (fun _ h => h) (fun _ h => h)
theorem safe_eq {mv : Int32} {I : Nat → Int32} {A : Nat → Nat → Int32} {o : Int32 × MS} (hf : f0_isSafe mv I A = some o) : (∀ k, o.2.1 k = I k) ∧ ∀ q ∈ mSz, ∀ i, i < q.2 → nA I A q.1 i = o.2.2 q.1 i := by
  have key : ∀ (o2 o4 : Int32 × MS) (v3 : Int32), f_make mv I (nA I A) = some o2 → f_isInCheck v3 o2.2.1 o2.2.2 = some o4 → (∀ k, nB o4.2.1 o4.2.2 k = I k) ∧ ∀ q ∈ mSz, ∀ i, i < q.2 → nA I A q.1 i = va_up o4.2.2 24 (o4.2.2 30) q.1 i := by
    intro o2 o4 v3 k2 k3
    have a2 := fr_make k2
    have a3 := fr_isInCheck k3
    have c30 : o4.2.2 30 = A 24 := ((a3.2 30 (by decide)).trans (a2.2 30 (by decide))).trans nA_30
    have c31 : o4.2.2 31 = nA I A 31 := (a3.2 31 (by decide)).trans (a2.2 31 (by decide))
    refine ⟨fun k => ?_, fun q hq i hi => ?_⟩
    · by_cases hk : k ∈ [25, 26, 27, 28, 29]
      · rcases List.mem_cons.mp hk with rfl | hk
        · show o4.2.2 31 0 = _
          rw [c31]; rfl
        rcases List.mem_cons.mp hk with rfl | hk
        · show o4.2.2 31 1 = _
          rw [c31]; rfl
        rcases List.mem_cons.mp hk with rfl | hk
        · show o4.2.2 31 2 = _
          rw [c31]; rfl
        rcases List.mem_cons.mp hk with rfl | hk
        · show o4.2.2 31 3 = _
          rw [c31]; rfl
        rcases List.mem_cons.mp hk with rfl | hk
        · show o4.2.2 31 4 = _
          rw [c31]; rfl
        · cases hk
      · rw [nB_o hk, a3.1 k List.not_mem_nil, a2.1 k hk]
    · by_cases h24 : q.1 = 24
      · rw [h24, va_up_self, c30, nA_o (by decide) (by decide)]
      · rw [va_up_ne _ _ h24, a3.2 q.1 List.not_mem_nil, a2.2 q.1 (by simpa using h24)]
  unfold f0_isSafe f_isSafe_0 at hf
  obtain ⟨o1, k1, hf⟩ := m_clE hf
  cases k1
  obtain ⟨o2, k2, hf⟩ := m_clE hf
  obtain ⟨v3, -, hf⟩ := m_bndE hf
  obtain ⟨o4, k3, hf⟩ := m_clE hf
  rcases m_ifE hf with ⟨-, hf⟩ | ⟨-, hf⟩
  · unfold f_isSafe_27 at hf
    obtain ⟨o5, k4, hf⟩ := m_clE hf
    obtain ⟨-, hf⟩ := m_chkE hf
    cases hf
    cases k4
    exact key o2 o4 _ k2 k3
  · unfold f_isSafe_27 at hf
    obtain ⟨o5, k4, hf⟩ := m_clE hf
    obtain ⟨-, hf⟩ := m_chkE hf
    cases hf
    cases k4
    exact key o2 o4 _ k2 k3
/-- isSafe: the state as it was, kept beside -/
noncomputable def f_isSafe (x1 : Int32) (I : Nat → Int32) (A : Nat → Nat → Int32) : Option (Int32 × MS) := m_cl (f0_isSafe x1 I A) (fun v _ _ => some (v, (I, nA I A)))
theorem c_isSafe {l : Launch} {D : va_G} {cy ci : ClassId} {h : Nat → Nat} {x1 : Int32} {I : Nat → Int32} {A : Nat → Nat → Int32} {o : Int32 × MS} (hf : f_isSafe x1 I A = some o) : mMi l yX12_isSafe wsX12_isSafe ({ frames := 4, cells := 0, slots := 0, locals := 98 } : Room) [.ref (h 0), .int x1] D cy ci h I A o := by
  obtain ⟨o0, h0, hf⟩ := m_clE hf
  cases hf
  exact mMi_ren (c0_isSafe h0) rfl (fun k _ => ((safe_eq h0).1 k).symm) (safe_eq h0).2
end
section
theorem hw_findMoves : ∀ w ∈ wsX120, w ∈ wsX12_findMoves := by decide +kernel
theorem fl_findMoves_24 : Cond.fieldLink RX12 70 "MoveTextsModel" "men" "[I" ∈ wsX12_findMoves := by decide +kernel
theorem fl_findMoves_25 : Cond.fieldLink RX12 121 "MoveTextsModel" "side" "I" ∈ wsX12_findMoves := by decide +kernel
theorem fl_findMoves_32 : Cond.fieldLink RX12 79 "MoveTextsModel" "list" "[I" ∈ wsX12_findMoves := by decide +kernel
theorem fl_findMoves_33 : Cond.fieldLink RX12 170 "MoveTextsModel" "moves" "I" ∈ wsX12_findMoves := by decide +kernel
theorem hd_findMoves : yX12_findMoves.cls = RX12 ∧ yX12_findMoves.cls ≠ "java/lang/invoke/MethodHandle" ∧ yX12_findMoves.cls ≠ "java/lang/invoke/VarHandle" ∧ (parseMethodDescriptor yX12_findMoves.desc).map (fun d => d.parameters.length) = some 0 := by decide +kernel
noncomputable def f_findMoves_163 (self7 : Int32 → (Nat → Int32) → (Nat → Nat → Int32) → Option (Int32 × MS)) (x1 : Int32) (I : Nat → Int32) (A : Nat → Nat → Int32) : Option (Int32 × MS) :=
  m_bnd (x1 + (1 : Int32)) (fun v1 =>
  self7 v1 I A)

set_option maxRecDepth 100000 in
set_option maxHeartbeats 4000000 in
theorem w_findMoves_163 {p : Program} {l : Launch} {e : Env} {s : State} {m : MethodId} {args : Array Value} {below : List Frame} {meth : Method} {c : Code} {Q : State → Prop} {D : va_G} {cy ci : ClassId} {h : Nat → Nat} {A0 : Nat → Prop} {o : Int32 × MS} (X : CallFix p m c cX12_findMoves 6 s args wsX12_findMoves RX12) (hret : mRv p l e ({ frames := 5, cells := 0, slots := 0, locals := 132 } : Room) s m args below meth c Q cX12_findMoves D cy ci h A0 o) {self7 : Int32 → (Nat → Int32) → (Nat → Nat → Int32) → Option (Int32 × MS)} (hself7 : ∀ (x1 : Int32) (I : Nat → Int32) (A : Nat → Nat → Int32) (H : Heap) (locs : List Loc) (ls : Array Slot), self7 x1 I A = some o → mH D cy ci h A0 s H locs I A → lv_has ls 6 [(0, .ref (h 0)), (1, .int x1)] → W p l e ({ frames := 5, cells := 0, slots := 0, locals := 132 } : Room) s m args below meth c H locs 0 0 Q (F0 m 7 ls [])) {x1 : Int32} {I : Nat → Int32} {A : Nat → Nat → Int32} {H : Heap} {locs : List Loc} {ls : Array Slot} (hf : f_findMoves_163 self7 x1 I A = some o) (hM : mH D cy ci h A0 s H locs I A) (hl : lv_has ls 6 [(0, .ref (h 0)), (1, .int x1)]) : W p l e ({ frames := 5, cells := 0, slots := 0, locals := 132 } : Room) s m args below meth c H locs 0 0 Q (F0 m 163 ls []) := by
  obtain ⟨hx, hb, hml, hown, hts⟩ := id X
  unfold f_findMoves_163 at hf
  obtain ⟨v1, ev, hf⟩ := m_bndE hf
  refine lv_iinc (v := v1) (lv' := [(1, .int v1), (0, .ref (h 0))]) hx hb dX12_findMoves_163 hl (k := 1) rfl (by rw [ev]; rfl) (by decide) rfl (fun ls hl => ?_)
  clear ev
  refine lv_goto (tgt := 7) hx hb dX12_findMoves_166 (by decide) ?_
  exact hself7 _ _ _ _ _ _ hf hM (lv_sub hl [1, 0] rfl)
noncomputable def f_findMoves_157 (self7 : Int32 → (Nat → Int32) → (Nat → Nat → Int32) → Option (Int32 × MS)) (self15 : Int32 → Int32 → (Nat → Int32) → (Nat → Nat → Int32) → Option (Int32 × MS)) (x1 : Int32) (x2 : Int32) (I : Nat → Int32) (A : Nat → Nat → Int32) : Option (Int32 × MS) :=
  m_bnd (x2 + (1 : Int32)) (fun v1 =>
  self15 x1 v1 I A)

set_option maxRecDepth 100000 in
set_option maxHeartbeats 4000000 in
theorem w_findMoves_157 {p : Program} {l : Launch} {e : Env} {s : State} {m : MethodId} {args : Array Value} {below : List Frame} {meth : Method} {c : Code} {Q : State → Prop} {D : va_G} {cy ci : ClassId} {h : Nat → Nat} {A0 : Nat → Prop} {o : Int32 × MS} (X : CallFix p m c cX12_findMoves 6 s args wsX12_findMoves RX12) (hret : mRv p l e ({ frames := 5, cells := 0, slots := 0, locals := 132 } : Room) s m args below meth c Q cX12_findMoves D cy ci h A0 o) {self7 : Int32 → (Nat → Int32) → (Nat → Nat → Int32) → Option (Int32 × MS)} (hself7 : ∀ (x1 : Int32) (I : Nat → Int32) (A : Nat → Nat → Int32) (H : Heap) (locs : List Loc) (ls : Array Slot), self7 x1 I A = some o → mH D cy ci h A0 s H locs I A → lv_has ls 6 [(0, .ref (h 0)), (1, .int x1)] → W p l e ({ frames := 5, cells := 0, slots := 0, locals := 132 } : Room) s m args below meth c H locs 0 0 Q (F0 m 7 ls [])) {self15 : Int32 → Int32 → (Nat → Int32) → (Nat → Nat → Int32) → Option (Int32 × MS)} (hself15 : ∀ (x1 : Int32) (x2 : Int32) (I : Nat → Int32) (A : Nat → Nat → Int32) (H : Heap) (locs : List Loc) (ls : Array Slot), self15 x1 x2 I A = some o → mH D cy ci h A0 s H locs I A → lv_has ls 6 [(0, .ref (h 0)), (1, .int x1), (2, .int x2)] → W p l e ({ frames := 5, cells := 0, slots := 0, locals := 132 } : Room) s m args below meth c H locs 0 0 Q (F0 m 15 ls [])) {x1 : Int32} {x2 : Int32} {I : Nat → Int32} {A : Nat → Nat → Int32} {H : Heap} {locs : List Loc} {ls : Array Slot} (hf : f_findMoves_157 self7 self15 x1 x2 I A = some o) (hM : mH D cy ci h A0 s H locs I A) (hl : lv_has ls 6 [(0, .ref (h 0)), (1, .int x1), (2, .int x2)]) : W p l e ({ frames := 5, cells := 0, slots := 0, locals := 132 } : Room) s m args below meth c H locs 0 0 Q (F0 m 157 ls []) := by
  obtain ⟨hx, hb, hml, hown, hts⟩ := id X
  unfold f_findMoves_157 at hf
  obtain ⟨v1, ev, hf⟩ := m_bndE hf
  refine lv_iinc (v := v1) (lv' := [(2, .int v1), (0, .ref (h 0)), (1, .int x1)]) hx hb dX12_findMoves_157 hl (k := 2) rfl (by rw [ev]; rfl) (by decide) rfl (fun ls hl => ?_)
  clear ev
  refine lv_goto (tgt := 15) hx hb dX12_findMoves_160 (by decide) ?_
  exact hself15 _ _ _ _ _ _ _ hf hM (lv_sub hl [1, 2, 0] rfl)
noncomputable def f_findMoves_116 (self7 : Int32 → (Nat → Int32) → (Nat → Nat → Int32) → Option (Int32 × MS)) (self15 : Int32 → Int32 → (Nat → Int32) → (Nat → Nat → Int32) → Option (Int32 × MS)) (self100 : Int32 → Int32 → Int32 → Int32 → Int32 → (Nat → Int32) → (Nat → Nat → Int32) → Option (Int32 × MS)) (x1 : Int32) (x2 : Int32) (x3 : Int32) (x4 : Int32) (x5 : Int32) (t0 : Int32) (t1 : Int32) (I : Nat → Int32) (A : Nat → Nat → Int32) : Option (Int32 × MS) :=
  m_if (t0 < t1) (
  f_findMoves_157 self7 self15 x1 x2 I A
  ) (
  m_bnd ((64 : Int32) * x2) (fun v1 =>
  m_bnd (x1 + v1) (fun v2 =>
  m_bnd ((4096 : Int32) * x5) (fun v3 =>
  m_bnd (v2 + v3) (fun v4 =>
  m_chk (¬ ((I 33) < 0 ∨ 2048 ≤ ((I 33)).toNatClampNeg)) (
  m_bnd (va_up A 32 (upd (A 32) ((I 33)).toNatClampNeg v4)) (fun A5 =>
  m_bnd ((I 33) + (1 : Int32)) (fun v6 =>
  m_bnd (upd I 33 v6) (fun I7 =>
  m_bnd (x5 + (1 : Int32)) (fun v8 =>
  self100 x1 x2 x3 x4 v8 I7 A5)))))))))
  )

set_option maxRecDepth 100000 in
set_option maxHeartbeats 4000000 in
theorem w_findMoves_116 {p : Program} {l : Launch} {e : Env} {s : State} {m : MethodId} {args : Array Value} {below : List Frame} {meth : Method} {c : Code} {Q : State → Prop} {D : va_G} {cy ci : ClassId} {h : Nat → Nat} {A0 : Nat → Prop} {o : Int32 × MS} (X : CallFix p m c cX12_findMoves 6 s args wsX12_findMoves RX12) (hret : mRv p l e ({ frames := 5, cells := 0, slots := 0, locals := 132 } : Room) s m args below meth c Q cX12_findMoves D cy ci h A0 o) {self7 : Int32 → (Nat → Int32) → (Nat → Nat → Int32) → Option (Int32 × MS)} (hself7 : ∀ (x1 : Int32) (I : Nat → Int32) (A : Nat → Nat → Int32) (H : Heap) (locs : List Loc) (ls : Array Slot), self7 x1 I A = some o → mH D cy ci h A0 s H locs I A → lv_has ls 6 [(0, .ref (h 0)), (1, .int x1)] → W p l e ({ frames := 5, cells := 0, slots := 0, locals := 132 } : Room) s m args below meth c H locs 0 0 Q (F0 m 7 ls [])) {self15 : Int32 → Int32 → (Nat → Int32) → (Nat → Nat → Int32) → Option (Int32 × MS)} (hself15 : ∀ (x1 : Int32) (x2 : Int32) (I : Nat → Int32) (A : Nat → Nat → Int32) (H : Heap) (locs : List Loc) (ls : Array Slot), self15 x1 x2 I A = some o → mH D cy ci h A0 s H locs I A → lv_has ls 6 [(0, .ref (h 0)), (1, .int x1), (2, .int x2)] → W p l e ({ frames := 5, cells := 0, slots := 0, locals := 132 } : Room) s m args below meth c H locs 0 0 Q (F0 m 15 ls [])) {self100 : Int32 → Int32 → Int32 → Int32 → Int32 → (Nat → Int32) → (Nat → Nat → Int32) → Option (Int32 × MS)} (hself100 : ∀ (x1 : Int32) (x2 : Int32) (x3 : Int32) (x4 : Int32) (x5 : Int32) (I : Nat → Int32) (A : Nat → Nat → Int32) (H : Heap) (locs : List Loc) (ls : Array Slot), self100 x1 x2 x3 x4 x5 I A = some o → mH D cy ci h A0 s H locs I A → lv_has ls 6 [(0, .ref (h 0)), (1, .int x1), (2, .int x2), (3, .int x3), (4, .int x4), (5, .int x5)] → W p l e ({ frames := 5, cells := 0, slots := 0, locals := 132 } : Room) s m args below meth c H locs 0 0 Q (F0 m 100 ls [])) {x1 : Int32} {x2 : Int32} {x3 : Int32} {x4 : Int32} {x5 : Int32} {t0 : Int32} {t1 : Int32} {I : Nat → Int32} {A : Nat → Nat → Int32} {H : Heap} {locs : List Loc} {ls : Array Slot} (hf : f_findMoves_116 self7 self15 self100 x1 x2 x3 x4 x5 t0 t1 I A = some o) (hM : mH D cy ci h A0 s H locs I A) (hl : lv_has ls 6 [(0, .ref (h 0)), (1, .int x1), (2, .int x2), (3, .int x3), (4, .int x4), (5, .int x5)]) : W p l e ({ frames := 5, cells := 0, slots := 0, locals := 132 } : Room) s m args below meth c H locs 0 0 Q (F0 m 116 ls [.int t0, .int t1]) := by
  obtain ⟨hx, hb, hml, hown, hts⟩ := id X
  unfold f_findMoves_116 at hf
  refine lv_icmp_gt (tgt := 157) hx hb dX12_findMoves_116 (by decide) (fun cc1 => ?_) (fun cc1 => ?_)
  · replace hf := m_ifT hf cc1
    exact w_findMoves_157 X hret hself7 hself15 hf hM (lv_sub hl [0, 1, 2] rfl)
  · replace hf := m_ifF hf cc1
    refine lv_aload_n hx hb dX12_findMoves_119 rfl (lv_at hl 0 rfl) ?_
    refine m_get (v := .ref (h 32)) X hw_findMoves hM 32 (by decide) fl_findMoves_32 rfl dX12_findMoves_120 ?_
    refine lv_aload_n hx hb dX12_findMoves_123 rfl (lv_at hl 0 rfl) ?_
    refine m_get (v := .int (I 33)) X hw_findMoves hM 33 (by decide) fl_findMoves_33 rfl dX12_findMoves_124 ?_
    refine lv_iload_n hx hb dX12_findMoves_127 rfl (lv_at hl 1 rfl) ?_
    refine lv_bipush (v := (64 : Int32)) hx hb dX12_findMoves_128 (by decide) ?_
    refine lv_iload_n hx hb dX12_findMoves_130 rfl (lv_at hl 2 rfl) ?_
    refine lv_imul hx hb dX12_findMoves_131 ?_
    obtain ⟨v1, ev, hf⟩ := m_bndE hf
    refine m_top ev ?_
    clear ev
    refine lv_iadd hx hb dX12_findMoves_132 ?_
    obtain ⟨v2, ev, hf⟩ := m_bndE hf
    refine m_top ev ?_
    clear ev
    refine lv_sipush (v := (4096 : Int32)) hx hb dX12_findMoves_133 (by decide) ?_
    refine lv_iload hx hb dX12_findMoves_136 (lv_at hl 5 rfl) ?_
    refine lv_imul hx hb dX12_findMoves_138 ?_
    obtain ⟨v3, ev, hf⟩ := m_bndE hf
    refine m_top ev ?_
    clear ev
    refine lv_iadd hx hb dX12_findMoves_139 ?_
    obtain ⟨v4, ev, hf⟩ := m_bndE hf
    refine m_top ev ?_
    clear ev
    obtain ⟨cd, hf⟩ := m_chkE hf
    refine m_iast X hM 32 23 2048 rfl ma_32 cd dX12_findMoves_140 (fun H locs hM => ?_)
    clear cd
    obtain ⟨A5, ev, hf⟩ := m_bndE hf
    replace hM := m_hA hM ev
    clear ev
    refine lv_aload_n hx hb dX12_findMoves_141 rfl (lv_at hl 0 rfl) ?_
    refine lv_dup hx hb dX12_findMoves_142 rfl ?_
    refine m_get (v := .int (I 33)) X hw_findMoves hM 33 (by decide) fl_findMoves_33 rfl dX12_findMoves_143 ?_
    refine lv_iconst (v := (1 : Int32)) hx hb dX12_findMoves_146 (by decide) ?_
    refine lv_iadd hx hb dX12_findMoves_147 ?_
    obtain ⟨v6, ev, hf⟩ := m_bndE hf
    refine m_top ev ?_
    clear ev
    refine m_put X hw_findMoves hM 33 (by decide) fl_findMoves_33 mi_33 rfl (tyX12_ok 33 (by decide)) dX12_findMoves_148 (fun H locs hM => ?_)
    obtain ⟨I7, ev, hf⟩ := m_bndE hf
    replace hM := m_hI hM ev
    clear ev
    obtain ⟨v8, ev, hf⟩ := m_bndE hf
    refine lv_iinc (v := v8) (lv' := [(5, .int v8), (0, .ref (h 0)), (1, .int x1), (2, .int x2), (3, .int x3), (4, .int x4)]) hx hb dX12_findMoves_151 hl (k := 5) rfl (by rw [ev]; rfl) (by decide) rfl (fun ls hl => ?_)
    clear ev
    refine lv_goto (tgt := 100) hx hb dX12_findMoves_154 (by decide) ?_
    exact hself100 _ _ _ _ _ _ _ _ _ _ hf hM (lv_sub hl [1, 2, 3, 4, 5, 0] rfl)
noncomputable def f_findMoves_100s (self7 : Int32 → (Nat → Int32) → (Nat → Nat → Int32) → Option (Int32 × MS)) (self15 : Int32 → Int32 → (Nat → Int32) → (Nat → Nat → Int32) → Option (Int32 × MS)) (self100 : Int32 → Int32 → Int32 → Int32 → Int32 → (Nat → Int32) → (Nat → Nat → Int32) → Option (Int32 × MS)) (x1 : Int32) (x2 : Int32) (x3 : Int32) (x4 : Int32) (x5 : Int32) (I : Nat → Int32) (A : Nat → Nat → Int32) : Option (Int32 × MS) :=
  m_if (x4 = 0) (
  f_findMoves_157 self7 self15 x1 x2 I A
  ) (
  m_if (x3 = 0) (
  f_findMoves_116 self7 self15 self100 x1 x2 x3 x4 x5 (0 : Int32) x5 I A
  ) (
  f_findMoves_116 self7 self15 self100 x1 x2 x3 x4 x5 (5 : Int32) x5 I A
  )
  )

set_option maxRecDepth 100000 in
set_option maxHeartbeats 4000000 in
theorem ws_findMoves_100 {p : Program} {l : Launch} {e : Env} {s : State} {m : MethodId} {args : Array Value} {below : List Frame} {meth : Method} {c : Code} {Q : State → Prop} {D : va_G} {cy ci : ClassId} {h : Nat → Nat} {A0 : Nat → Prop} {o : Int32 × MS} (X : CallFix p m c cX12_findMoves 6 s args wsX12_findMoves RX12) (hret : mRv p l e ({ frames := 5, cells := 0, slots := 0, locals := 132 } : Room) s m args below meth c Q cX12_findMoves D cy ci h A0 o) {self7 : Int32 → (Nat → Int32) → (Nat → Nat → Int32) → Option (Int32 × MS)} (hself7 : ∀ (x1 : Int32) (I : Nat → Int32) (A : Nat → Nat → Int32) (H : Heap) (locs : List Loc) (ls : Array Slot), self7 x1 I A = some o → mH D cy ci h A0 s H locs I A → lv_has ls 6 [(0, .ref (h 0)), (1, .int x1)] → W p l e ({ frames := 5, cells := 0, slots := 0, locals := 132 } : Room) s m args below meth c H locs 0 0 Q (F0 m 7 ls [])) {self15 : Int32 → Int32 → (Nat → Int32) → (Nat → Nat → Int32) → Option (Int32 × MS)} (hself15 : ∀ (x1 : Int32) (x2 : Int32) (I : Nat → Int32) (A : Nat → Nat → Int32) (H : Heap) (locs : List Loc) (ls : Array Slot), self15 x1 x2 I A = some o → mH D cy ci h A0 s H locs I A → lv_has ls 6 [(0, .ref (h 0)), (1, .int x1), (2, .int x2)] → W p l e ({ frames := 5, cells := 0, slots := 0, locals := 132 } : Room) s m args below meth c H locs 0 0 Q (F0 m 15 ls [])) {self100 : Int32 → Int32 → Int32 → Int32 → Int32 → (Nat → Int32) → (Nat → Nat → Int32) → Option (Int32 × MS)} (hself100 : ∀ (x1 : Int32) (x2 : Int32) (x3 : Int32) (x4 : Int32) (x5 : Int32) (I : Nat → Int32) (A : Nat → Nat → Int32) (H : Heap) (locs : List Loc) (ls : Array Slot), self100 x1 x2 x3 x4 x5 I A = some o → mH D cy ci h A0 s H locs I A → lv_has ls 6 [(0, .ref (h 0)), (1, .int x1), (2, .int x2), (3, .int x3), (4, .int x4), (5, .int x5)] → W p l e ({ frames := 5, cells := 0, slots := 0, locals := 132 } : Room) s m args below meth c H locs 0 0 Q (F0 m 100 ls [])) {x1 : Int32} {x2 : Int32} {x3 : Int32} {x4 : Int32} {x5 : Int32} {I : Nat → Int32} {A : Nat → Nat → Int32} {H : Heap} {locs : List Loc} {ls : Array Slot} (hf : f_findMoves_100s self7 self15 self100 x1 x2 x3 x4 x5 I A = some o) (hM : mH D cy ci h A0 s H locs I A) (hl : lv_has ls 6 [(0, .ref (h 0)), (1, .int x1), (2, .int x2), (3, .int x3), (4, .int x4), (5, .int x5)]) : W p l e ({ frames := 5, cells := 0, slots := 0, locals := 132 } : Room) s m args below meth c H locs 0 0 Q (F0 m 100 ls []) := by
  obtain ⟨hx, hb, hml, hown, hts⟩ := id X
  unfold f_findMoves_100s at hf
  refine lv_iload hx hb dX12_findMoves_100 (lv_at hl 4 rfl) ?_
  refine lv_if_eq (tgt := 157) hx hb dX12_findMoves_102 (by decide) (fun cc1 => ?_) (fun cc1 => ?_)
  · replace hf := m_ifT hf cc1
    exact w_findMoves_157 X hret hself7 hself15 hf hM (lv_sub hl [0, 1, 2] rfl)
  · replace hf := m_ifF hf cc1
    refine lv_iload hx hb dX12_findMoves_105 (lv_at hl 5 rfl) ?_
    refine lv_iload_n hx hb dX12_findMoves_107 rfl (lv_at hl 3 rfl) ?_
    refine lv_if_eq (tgt := 115) hx hb dX12_findMoves_108 (by decide) (fun cc1 => ?_) (fun cc1 => ?_)
    · replace hf := m_ifT hf cc1
      refine lv_iconst (v := (0 : Int32)) hx hb dX12_findMoves_115 (by decide) ?_
      exact w_findMoves_116 X hret hself7 hself15 hself100 hf hM (lv_sub hl [0, 1, 2, 3, 4, 5] rfl)
    · replace hf := m_ifF hf cc1
      refine lv_iconst (v := (5 : Int32)) hx hb dX12_findMoves_111 (by decide) ?_
      refine lv_goto (tgt := 116) hx hb dX12_findMoves_112 (by decide) ?_
      exact w_findMoves_116 X hret hself7 hself15 hself100 hf hM (lv_sub hl [0, 1, 2, 3, 4, 5] rfl)
noncomputable def f_findMoves_100 (self7 : Int32 → (Nat → Int32) → (Nat → Nat → Int32) → Option (Int32 × MS)) (self15 : Int32 → Int32 → (Nat → Int32) → (Nat → Nat → Int32) → Option (Int32 × MS)) : Nat → Int32 → Int32 → Int32 → Int32 → Int32 → (Nat → Int32) → (Nat → Nat → Int32) → Option (Int32 × MS)
  | 0 => fun _ _ _ _ _ _ _ => none
  | n + 1 => f_findMoves_100s self7 self15 (f_findMoves_100 self7 self15 n)
theorem w_findMoves_100 {p : Program} {l : Launch} {e : Env} {s : State} {m : MethodId} {args : Array Value} {below : List Frame} {meth : Method} {c : Code} {Q : State → Prop} {D : va_G} {cy ci : ClassId} {h : Nat → Nat} {A0 : Nat → Prop} {o : Int32 × MS} (X : CallFix p m c cX12_findMoves 6 s args wsX12_findMoves RX12) (hret : mRv p l e ({ frames := 5, cells := 0, slots := 0, locals := 132 } : Room) s m args below meth c Q cX12_findMoves D cy ci h A0 o) {self7 : Int32 → (Nat → Int32) → (Nat → Nat → Int32) → Option (Int32 × MS)} (hself7 : ∀ (x1 : Int32) (I : Nat → Int32) (A : Nat → Nat → Int32) (H : Heap) (locs : List Loc) (ls : Array Slot), self7 x1 I A = some o → mH D cy ci h A0 s H locs I A → lv_has ls 6 [(0, .ref (h 0)), (1, .int x1)] → W p l e ({ frames := 5, cells := 0, slots := 0, locals := 132 } : Room) s m args below meth c H locs 0 0 Q (F0 m 7 ls [])) {self15 : Int32 → Int32 → (Nat → Int32) → (Nat → Nat → Int32) → Option (Int32 × MS)} (hself15 : ∀ (x1 : Int32) (x2 : Int32) (I : Nat → Int32) (A : Nat → Nat → Int32) (H : Heap) (locs : List Loc) (ls : Array Slot), self15 x1 x2 I A = some o → mH D cy ci h A0 s H locs I A → lv_has ls 6 [(0, .ref (h 0)), (1, .int x1), (2, .int x2)] → W p l e ({ frames := 5, cells := 0, slots := 0, locals := 132 } : Room) s m args below meth c H locs 0 0 Q (F0 m 15 ls [])) (n : Nat) : ∀ (x1 : Int32) (x2 : Int32) (x3 : Int32) (x4 : Int32) (x5 : Int32) (I : Nat → Int32) (A : Nat → Nat → Int32) (H : Heap) (locs : List Loc) (ls : Array Slot), f_findMoves_100 self7 self15 n x1 x2 x3 x4 x5 I A = some o → mH D cy ci h A0 s H locs I A → lv_has ls 6 [(0, .ref (h 0)), (1, .int x1), (2, .int x2), (3, .int x3), (4, .int x4), (5, .int x5)] → W p l e ({ frames := 5, cells := 0, slots := 0, locals := 132 } : Room) s m args below meth c H locs 0 0 Q (F0 m 100 ls []) := by
  induction n with
  | zero => intro x1 x2 x3 x4 x5 I A H locs ls hf; cases hf
  | succ n ih => intro x1 x2 x3 x4 x5 I A H locs ls hf hM hl; exact ws_findMoves_100 X hret hself7 hself15 (self100 := f_findMoves_100 self7 self15 n) ih hf hM hl
noncomputable def f_findMoves_98 (self7 : Int32 → (Nat → Int32) → (Nat → Nat → Int32) → Option (Int32 × MS)) (self15 : Int32 → Int32 → (Nat → Int32) → (Nat → Nat → Int32) → Option (Int32 × MS)) (x1 : Int32) (x2 : Int32) (x3 : Int32) (x4 : Int32) (t0 : Int32) (I : Nat → Int32) (A : Nat → Nat → Int32) : Option (Int32 × MS) :=
  f_findMoves_100 self7 self15 mFuel x1 x2 x3 x4 t0 I A

set_option maxRecDepth 100000 in
set_option maxHeartbeats 4000000 in
theorem w_findMoves_98 {p : Program} {l : Launch} {e : Env} {s : State} {m : MethodId} {args : Array Value} {below : List Frame} {meth : Method} {c : Code} {Q : State → Prop} {D : va_G} {cy ci : ClassId} {h : Nat → Nat} {A0 : Nat → Prop} {o : Int32 × MS} (X : CallFix p m c cX12_findMoves 6 s args wsX12_findMoves RX12) (hret : mRv p l e ({ frames := 5, cells := 0, slots := 0, locals := 132 } : Room) s m args below meth c Q cX12_findMoves D cy ci h A0 o) {self7 : Int32 → (Nat → Int32) → (Nat → Nat → Int32) → Option (Int32 × MS)} (hself7 : ∀ (x1 : Int32) (I : Nat → Int32) (A : Nat → Nat → Int32) (H : Heap) (locs : List Loc) (ls : Array Slot), self7 x1 I A = some o → mH D cy ci h A0 s H locs I A → lv_has ls 6 [(0, .ref (h 0)), (1, .int x1)] → W p l e ({ frames := 5, cells := 0, slots := 0, locals := 132 } : Room) s m args below meth c H locs 0 0 Q (F0 m 7 ls [])) {self15 : Int32 → Int32 → (Nat → Int32) → (Nat → Nat → Int32) → Option (Int32 × MS)} (hself15 : ∀ (x1 : Int32) (x2 : Int32) (I : Nat → Int32) (A : Nat → Nat → Int32) (H : Heap) (locs : List Loc) (ls : Array Slot), self15 x1 x2 I A = some o → mH D cy ci h A0 s H locs I A → lv_has ls 6 [(0, .ref (h 0)), (1, .int x1), (2, .int x2)] → W p l e ({ frames := 5, cells := 0, slots := 0, locals := 132 } : Room) s m args below meth c H locs 0 0 Q (F0 m 15 ls [])) {x1 : Int32} {x2 : Int32} {x3 : Int32} {x4 : Int32} {t0 : Int32} {I : Nat → Int32} {A : Nat → Nat → Int32} {H : Heap} {locs : List Loc} {ls : Array Slot} (hf : f_findMoves_98 self7 self15 x1 x2 x3 x4 t0 I A = some o) (hM : mH D cy ci h A0 s H locs I A) (hl : lv_has ls 6 [(0, .ref (h 0)), (1, .int x1), (2, .int x2), (3, .int x3), (4, .int x4)]) : W p l e ({ frames := 5, cells := 0, slots := 0, locals := 132 } : Room) s m args below meth c H locs 0 0 Q (F0 m 98 ls [.int t0]) := by
  obtain ⟨hx, hb, hml, hown, hts⟩ := id X
  unfold f_findMoves_98 at hf
  refine lv_istore (lv' := [(5, .int t0), (0, .ref (h 0)), (1, .int x1), (2, .int x2), (3, .int x3), (4, .int x4)]) hx hb dX12_findMoves_98 hl (by decide) rfl (fun ls hl => ?_)
  exact w_findMoves_100 X hret hself7 hself15 _ _ _ _ _ _ _ _ _ _ _ hf hM (lv_sub hl [1, 2, 3, 4, 5, 0] rfl)
noncomputable def f_findMoves_76 (self7 : Int32 → (Nat → Int32) → (Nat → Nat → Int32) → Option (Int32 × MS)) (self15 : Int32 → Int32 → (Nat → Int32) → (Nat → Nat → Int32) → Option (Int32 × MS)) (x1 : Int32) (x2 : Int32) (t0 : Int32) (I : Nat → Int32) (A : Nat → Nat → Int32) : Option (Int32 × MS) :=
  m_bnd ((64 : Int32) * x2) (fun v1 =>
  m_bnd (x1 + v1) (fun v2 =>
  m_cl (f_isSafe v2 I A) (fun r3 Ic3 Ac3 =>
  m_if (t0 = 0) (
  f_findMoves_98 self7 self15 x1 x2 t0 r3 (0 : Int32) Ic3 Ac3
  ) (
  f_findMoves_98 self7 self15 x1 x2 t0 r3 (2 : Int32) Ic3 Ac3
  ))))

set_option maxRecDepth 100000 in
set_option maxHeartbeats 4000000 in
theorem w_findMoves_76 {p : Program} {l : Launch} {e : Env} {s : State} {m : MethodId} {args : Array Value} {below : List Frame} {meth : Method} {c : Code} {Q : State → Prop} {D : va_G} {cy ci : ClassId} {h : Nat → Nat} {A0 : Nat → Prop} {o : Int32 × MS} (X : CallFix p m c cX12_findMoves 6 s args wsX12_findMoves RX12) (hret : mRv p l e ({ frames := 5, cells := 0, slots := 0, locals := 132 } : Room) s m args below meth c Q cX12_findMoves D cy ci h A0 o) {self7 : Int32 → (Nat → Int32) → (Nat → Nat → Int32) → Option (Int32 × MS)} (hself7 : ∀ (x1 : Int32) (I : Nat → Int32) (A : Nat → Nat → Int32) (H : Heap) (locs : List Loc) (ls : Array Slot), self7 x1 I A = some o → mH D cy ci h A0 s H locs I A → lv_has ls 6 [(0, .ref (h 0)), (1, .int x1)] → W p l e ({ frames := 5, cells := 0, slots := 0, locals := 132 } : Room) s m args below meth c H locs 0 0 Q (F0 m 7 ls [])) {self15 : Int32 → Int32 → (Nat → Int32) → (Nat → Nat → Int32) → Option (Int32 × MS)} (hself15 : ∀ (x1 : Int32) (x2 : Int32) (I : Nat → Int32) (A : Nat → Nat → Int32) (H : Heap) (locs : List Loc) (ls : Array Slot), self15 x1 x2 I A = some o → mH D cy ci h A0 s H locs I A → lv_has ls 6 [(0, .ref (h 0)), (1, .int x1), (2, .int x2)] → W p l e ({ frames := 5, cells := 0, slots := 0, locals := 132 } : Room) s m args below meth c H locs 0 0 Q (F0 m 15 ls [])) {x1 : Int32} {x2 : Int32} {t0 : Int32} {I : Nat → Int32} {A : Nat → Nat → Int32} {H : Heap} {locs : List Loc} {ls : Array Slot} (hf : f_findMoves_76 self7 self15 x1 x2 t0 I A = some o) (hM : mH D cy ci h A0 s H locs I A) (hl : lv_has ls 6 [(0, .ref (h 0)), (1, .int x1), (2, .int x2)]) : W p l e ({ frames := 5, cells := 0, slots := 0, locals := 132 } : Room) s m args below meth c H locs 0 0 Q (F0 m 76 ls [.int t0]) := by
  obtain ⟨hx, hb, hml, hown, hts⟩ := id X
  unfold f_findMoves_76 at hf
  refine lv_istore_n (lv' := [(3, .int t0), (0, .ref (h 0)), (1, .int x1), (2, .int x2)]) hx hb dX12_findMoves_76 rfl hl (by decide) rfl (fun ls hl => ?_)
  refine lv_aload_n hx hb dX12_findMoves_77 rfl (lv_at hl 1 rfl) ?_
  refine lv_iload_n hx hb dX12_findMoves_78 rfl (lv_at hl 2 rfl) ?_
  refine lv_bipush (v := (64 : Int32)) hx hb dX12_findMoves_79 (by decide) ?_
  refine lv_iload_n hx hb dX12_findMoves_81 rfl (lv_at hl 3 rfl) ?_
  refine lv_imul hx hb dX12_findMoves_82 ?_
  obtain ⟨v1, ev, hf⟩ := m_bndE hf
  refine m_top ev ?_
  clear ev
  refine lv_iadd hx hb dX12_findMoves_83 ?_
  obtain ⟨v2, ev, hf⟩ := m_bndE hf
  refine m_top ev ?_
  clear ev
  obtain ⟨o3, ho, hf⟩ := m_clE hf
  refine m_callVi X hM (c_isSafe ho) gX12_findMoves_X12_isSafe rfl ⟨rfl, rfl⟩ hd_isSafe ⟨Nat.le_of_ble_eq_true rfl, Nat.le_of_ble_eq_true rfl⟩ rfl hl.1 rfl (Nat.le_of_ble_eq_true rfl) dX12_findMoves_84 (fun H locs hM => ?_)
  clear ho
  refine lv_istore (lv' := [(4, .int o3.1), (3, .int t0), (0, .ref (h 0)), (1, .int x1), (2, .int x2)]) hx hb dX12_findMoves_87 hl (by decide) rfl (fun ls hl => ?_)
  refine lv_iload_n hx hb dX12_findMoves_89 rfl (lv_at hl 1 rfl) ?_
  refine lv_if_eq (tgt := 97) hx hb dX12_findMoves_90 (by decide) (fun cc1 => ?_) (fun cc1 => ?_)
  · replace hf := m_ifT hf cc1
    refine lv_iconst (v := (0 : Int32)) hx hb dX12_findMoves_97 (by decide) ?_
    exact w_findMoves_98 X hret hself7 hself15 hf hM (lv_sub hl [2, 3, 4, 1, 0] rfl)
  · replace hf := m_ifF hf cc1
    refine lv_iconst (v := (2 : Int32)) hx hb dX12_findMoves_93 (by decide) ?_
    refine lv_goto (tgt := 98) hx hb dX12_findMoves_94 (by decide) ?_
    exact w_findMoves_98 X hret hself7 hself15 hf hM (lv_sub hl [2, 3, 4, 1, 0] rfl)
noncomputable def f_findMoves_75 (self7 : Int32 → (Nat → Int32) → (Nat → Nat → Int32) → Option (Int32 × MS)) (self15 : Int32 → Int32 → (Nat → Int32) → (Nat → Nat → Int32) → Option (Int32 × MS)) (x1 : Int32) (x2 : Int32) (I : Nat → Int32) (A : Nat → Nat → Int32) : Option (Int32 × MS) :=
  f_findMoves_76 self7 self15 x1 x2 (0 : Int32) I A

set_option maxRecDepth 100000 in
set_option maxHeartbeats 4000000 in
theorem w_findMoves_75 {p : Program} {l : Launch} {e : Env} {s : State} {m : MethodId} {args : Array Value} {below : List Frame} {meth : Method} {c : Code} {Q : State → Prop} {D : va_G} {cy ci : ClassId} {h : Nat → Nat} {A0 : Nat → Prop} {o : Int32 × MS} (X : CallFix p m c cX12_findMoves 6 s args wsX12_findMoves RX12) (hret : mRv p l e ({ frames := 5, cells := 0, slots := 0, locals := 132 } : Room) s m args below meth c Q cX12_findMoves D cy ci h A0 o) {self7 : Int32 → (Nat → Int32) → (Nat → Nat → Int32) → Option (Int32 × MS)} (hself7 : ∀ (x1 : Int32) (I : Nat → Int32) (A : Nat → Nat → Int32) (H : Heap) (locs : List Loc) (ls : Array Slot), self7 x1 I A = some o → mH D cy ci h A0 s H locs I A → lv_has ls 6 [(0, .ref (h 0)), (1, .int x1)] → W p l e ({ frames := 5, cells := 0, slots := 0, locals := 132 } : Room) s m args below meth c H locs 0 0 Q (F0 m 7 ls [])) {self15 : Int32 → Int32 → (Nat → Int32) → (Nat → Nat → Int32) → Option (Int32 × MS)} (hself15 : ∀ (x1 : Int32) (x2 : Int32) (I : Nat → Int32) (A : Nat → Nat → Int32) (H : Heap) (locs : List Loc) (ls : Array Slot), self15 x1 x2 I A = some o → mH D cy ci h A0 s H locs I A → lv_has ls 6 [(0, .ref (h 0)), (1, .int x1), (2, .int x2)] → W p l e ({ frames := 5, cells := 0, slots := 0, locals := 132 } : Room) s m args below meth c H locs 0 0 Q (F0 m 15 ls [])) {x1 : Int32} {x2 : Int32} {I : Nat → Int32} {A : Nat → Nat → Int32} {H : Heap} {locs : List Loc} {ls : Array Slot} (hf : f_findMoves_75 self7 self15 x1 x2 I A = some o) (hM : mH D cy ci h A0 s H locs I A) (hl : lv_has ls 6 [(0, .ref (h 0)), (1, .int x1), (2, .int x2)]) : W p l e ({ frames := 5, cells := 0, slots := 0, locals := 132 } : Room) s m args below meth c H locs 0 0 Q (F0 m 75 ls []) := by
  obtain ⟨hx, hb, hml, hown, hts⟩ := id X
  unfold f_findMoves_75 at hf
  refine lv_iconst (v := (0 : Int32)) hx hb dX12_findMoves_75 (by decide) ?_
  exact w_findMoves_76 X hret hself7 hself15 hf hM (lv_sub hl [0, 1, 2] rfl)
noncomputable def f_findMoves_71 (self7 : Int32 → (Nat → Int32) → (Nat → Nat → Int32) → Option (Int32 × MS)) (self15 : Int32 → Int32 → (Nat → Int32) → (Nat → Nat → Int32) → Option (Int32 × MS)) (x1 : Int32) (x2 : Int32) (I : Nat → Int32) (A : Nat → Nat → Int32) : Option (Int32 × MS) :=
  f_findMoves_76 self7 self15 x1 x2 (1 : Int32) I A

set_option maxRecDepth 100000 in
set_option maxHeartbeats 4000000 in
theorem w_findMoves_71 {p : Program} {l : Launch} {e : Env} {s : State} {m : MethodId} {args : Array Value} {below : List Frame} {meth : Method} {c : Code} {Q : State → Prop} {D : va_G} {cy ci : ClassId} {h : Nat → Nat} {A0 : Nat → Prop} {o : Int32 × MS} (X : CallFix p m c cX12_findMoves 6 s args wsX12_findMoves RX12) (hret : mRv p l e ({ frames := 5, cells := 0, slots := 0, locals := 132 } : Room) s m args below meth c Q cX12_findMoves D cy ci h A0 o) {self7 : Int32 → (Nat → Int32) → (Nat → Nat → Int32) → Option (Int32 × MS)} (hself7 : ∀ (x1 : Int32) (I : Nat → Int32) (A : Nat → Nat → Int32) (H : Heap) (locs : List Loc) (ls : Array Slot), self7 x1 I A = some o → mH D cy ci h A0 s H locs I A → lv_has ls 6 [(0, .ref (h 0)), (1, .int x1)] → W p l e ({ frames := 5, cells := 0, slots := 0, locals := 132 } : Room) s m args below meth c H locs 0 0 Q (F0 m 7 ls [])) {self15 : Int32 → Int32 → (Nat → Int32) → (Nat → Nat → Int32) → Option (Int32 × MS)} (hself15 : ∀ (x1 : Int32) (x2 : Int32) (I : Nat → Int32) (A : Nat → Nat → Int32) (H : Heap) (locs : List Loc) (ls : Array Slot), self15 x1 x2 I A = some o → mH D cy ci h A0 s H locs I A → lv_has ls 6 [(0, .ref (h 0)), (1, .int x1), (2, .int x2)] → W p l e ({ frames := 5, cells := 0, slots := 0, locals := 132 } : Room) s m args below meth c H locs 0 0 Q (F0 m 15 ls [])) {x1 : Int32} {x2 : Int32} {I : Nat → Int32} {A : Nat → Nat → Int32} {H : Heap} {locs : List Loc} {ls : Array Slot} (hf : f_findMoves_71 self7 self15 x1 x2 I A = some o) (hM : mH D cy ci h A0 s H locs I A) (hl : lv_has ls 6 [(0, .ref (h 0)), (1, .int x1), (2, .int x2)]) : W p l e ({ frames := 5, cells := 0, slots := 0, locals := 132 } : Room) s m args below meth c H locs 0 0 Q (F0 m 71 ls []) := by
  obtain ⟨hx, hb, hml, hown, hts⟩ := id X
  unfold f_findMoves_71 at hf
  refine lv_iconst (v := (1 : Int32)) hx hb dX12_findMoves_71 (by decide) ?_
  refine lv_goto (tgt := 76) hx hb dX12_findMoves_72 (by decide) ?_
  exact w_findMoves_76 X hret hself7 hself15 hf hM (lv_sub hl [0, 1, 2] rfl)
noncomputable def f_findMoves_15s (self7 : Int32 → (Nat → Int32) → (Nat → Nat → Int32) → Option (Int32 × MS)) (self15 : Int32 → Int32 → (Nat → Int32) → (Nat → Nat → Int32) → Option (Int32 × MS)) (x1 : Int32) (x2 : Int32) (I : Nat → Int32) (A : Nat → Nat → Int32) : Option (Int32 × MS) :=
  m_if ((64 : Int32) ≤ x2) (
  f_findMoves_163 self7 x1 I A
  ) (
  m_chk (¬ (x1 < 0 ∨ 64 ≤ (x1).toNatClampNeg)) (
  m_bnd (A 24 (x1).toNatClampNeg) (fun v1 =>
  m_cl (f_sideOf v1 I A) (fun r2 Ic2 Ac2 =>
  m_if (r2 = (Ic2 25)) (
  m_cl (f_goes x1 x2 Ic2 Ac2) (fun r3 Ic3 Ac3 =>
  m_if (r3 = 0) (
  f_findMoves_157 self7 self15 x1 x2 Ic3 Ac3
  ) (
  m_chk (¬ (x1 < 0 ∨ 64 ≤ (x1).toNatClampNeg)) (
  m_bnd (Ac3 24 (x1).toNatClampNeg) (fun v4 =>
  m_cl (f_kind v4 Ic3 Ac3) (fun r5 Ic5 Ac5 =>
  m_if (r5 = (1 : Int32)) (
  m_if (x2 < (8 : Int32)) (
  f_findMoves_71 self7 self15 x1 x2 Ic5 Ac5
  ) (
  m_if (x2 ≤ (55 : Int32)) (
  f_findMoves_75 self7 self15 x1 x2 Ic5 Ac5
  ) (
  f_findMoves_71 self7 self15 x1 x2 Ic5 Ac5
  )
  )
  ) (
  f_findMoves_75 self7 self15 x1 x2 Ic5 Ac5
  ))))
  ))
  ) (
  f_findMoves_163 self7 x1 Ic2 Ac2
  ))))
  )

set_option maxRecDepth 100000 in
set_option maxHeartbeats 4000000 in
theorem ws_findMoves_15 {p : Program} {l : Launch} {e : Env} {s : State} {m : MethodId} {args : Array Value} {below : List Frame} {meth : Method} {c : Code} {Q : State → Prop} {D : va_G} {cy ci : ClassId} {h : Nat → Nat} {A0 : Nat → Prop} {o : Int32 × MS} (X : CallFix p m c cX12_findMoves 6 s args wsX12_findMoves RX12) (hret : mRv p l e ({ frames := 5, cells := 0, slots := 0, locals := 132 } : Room) s m args below meth c Q cX12_findMoves D cy ci h A0 o) {self7 : Int32 → (Nat → Int32) → (Nat → Nat → Int32) → Option (Int32 × MS)} (hself7 : ∀ (x1 : Int32) (I : Nat → Int32) (A : Nat → Nat → Int32) (H : Heap) (locs : List Loc) (ls : Array Slot), self7 x1 I A = some o → mH D cy ci h A0 s H locs I A → lv_has ls 6 [(0, .ref (h 0)), (1, .int x1)] → W p l e ({ frames := 5, cells := 0, slots := 0, locals := 132 } : Room) s m args below meth c H locs 0 0 Q (F0 m 7 ls [])) {self15 : Int32 → Int32 → (Nat → Int32) → (Nat → Nat → Int32) → Option (Int32 × MS)} (hself15 : ∀ (x1 : Int32) (x2 : Int32) (I : Nat → Int32) (A : Nat → Nat → Int32) (H : Heap) (locs : List Loc) (ls : Array Slot), self15 x1 x2 I A = some o → mH D cy ci h A0 s H locs I A → lv_has ls 6 [(0, .ref (h 0)), (1, .int x1), (2, .int x2)] → W p l e ({ frames := 5, cells := 0, slots := 0, locals := 132 } : Room) s m args below meth c H locs 0 0 Q (F0 m 15 ls [])) {x1 : Int32} {x2 : Int32} {I : Nat → Int32} {A : Nat → Nat → Int32} {H : Heap} {locs : List Loc} {ls : Array Slot} (hf : f_findMoves_15s self7 self15 x1 x2 I A = some o) (hM : mH D cy ci h A0 s H locs I A) (hl : lv_has ls 6 [(0, .ref (h 0)), (1, .int x1), (2, .int x2)]) : W p l e ({ frames := 5, cells := 0, slots := 0, locals := 132 } : Room) s m args below meth c H locs 0 0 Q (F0 m 15 ls []) := by
  obtain ⟨hx, hb, hml, hown, hts⟩ := id X
  unfold f_findMoves_15s at hf
  refine lv_iload_n hx hb dX12_findMoves_15 rfl (lv_at hl 2 rfl) ?_
  refine lv_bipush (v := (64 : Int32)) hx hb dX12_findMoves_16 (by decide) ?_
  refine lv_icmp_ge (tgt := 163) hx hb dX12_findMoves_18 (by decide) (fun cc1 => ?_) (fun cc1 => ?_)
  · replace hf := m_ifT hf cc1
    exact w_findMoves_163 X hret hself7 hf hM (lv_sub hl [0, 1] rfl)
  · replace hf := m_ifF hf cc1
    refine lv_aload_n hx hb dX12_findMoves_21 rfl (lv_at hl 0 rfl) ?_
    refine m_get (v := .ref (h 24)) X hw_findMoves hM 24 (by decide) fl_findMoves_24 rfl dX12_findMoves_22 ?_
    refine lv_iload_n hx hb dX12_findMoves_25 rfl (lv_at hl 1 rfl) ?_
    obtain ⟨cd, hf⟩ := m_chkE hf
    refine m_iald X hM 24 20 64 rfl cd dX12_findMoves_26 ?_
    clear cd
    obtain ⟨v1, ev, hf⟩ := m_bndE hf
    refine m_top ev ?_
    clear ev
    obtain ⟨o2, ho, hf⟩ := m_clE hf
    refine m_callSi X hM (c_sideOf ho) gX12_findMoves_X12_sideOf rfl ⟨rfl, rfl⟩ hd_sideOf ⟨Nat.le_of_ble_eq_true rfl, Nat.le_of_ble_eq_true rfl⟩ rfl hl.1 rfl (Nat.le_of_ble_eq_true rfl) dX12_findMoves_27 (fun H locs hM => ?_)
    clear ho
    refine lv_aload_n hx hb dX12_findMoves_30 rfl (lv_at hl 0 rfl) ?_
    refine m_get (v := .int (o2.2.1 25)) X hw_findMoves hM 25 (by decide) fl_findMoves_25 rfl dX12_findMoves_31 ?_
    refine lv_icmp_ne (tgt := 163) hx hb dX12_findMoves_34 (by decide) (fun cc1 => ?_) (fun cc1 => ?_)
    · replace hf := m_ifF hf cc1
      exact w_findMoves_163 X hret hself7 hf hM (lv_sub hl [0, 1] rfl)
    · replace hf := m_ifT hf cc1
      refine lv_aload_n hx hb dX12_findMoves_37 rfl (lv_at hl 0 rfl) ?_
      refine lv_iload_n hx hb dX12_findMoves_38 rfl (lv_at hl 1 rfl) ?_
      refine lv_iload_n hx hb dX12_findMoves_39 rfl (lv_at hl 2 rfl) ?_
      obtain ⟨o3, ho, hf⟩ := m_clE hf
      refine m_callVi X hM (c_goes ho) gX12_findMoves_X12_goes rfl ⟨rfl, rfl⟩ hd_goes ⟨Nat.le_of_ble_eq_true rfl, Nat.le_of_ble_eq_true rfl⟩ rfl hl.1 rfl (Nat.le_of_ble_eq_true rfl) dX12_findMoves_40 (fun H locs hM => ?_)
      clear ho
      refine lv_if_eq (tgt := 157) hx hb dX12_findMoves_43 (by decide) (fun cc1 => ?_) (fun cc1 => ?_)
      · replace hf := m_ifT hf cc1
        exact w_findMoves_157 X hret hself7 hself15 hf hM (lv_sub hl [0, 1, 2] rfl)
      · replace hf := m_ifF hf cc1
        refine lv_aload_n hx hb dX12_findMoves_46 rfl (lv_at hl 0 rfl) ?_
        refine m_get (v := .ref (h 24)) X hw_findMoves hM 24 (by decide) fl_findMoves_24 rfl dX12_findMoves_47 ?_
        refine lv_iload_n hx hb dX12_findMoves_50 rfl (lv_at hl 1 rfl) ?_
        obtain ⟨cd, hf⟩ := m_chkE hf
        refine m_iald X hM 24 20 64 rfl cd dX12_findMoves_51 ?_
        clear cd
        obtain ⟨v4, ev, hf⟩ := m_bndE hf
        refine m_top ev ?_
        clear ev
        obtain ⟨o5, ho, hf⟩ := m_clE hf
        refine m_callSi X hM (c_kind ho) gX12_findMoves_X12_kind rfl ⟨rfl, rfl⟩ hd_kind ⟨Nat.le_of_ble_eq_true rfl, Nat.le_of_ble_eq_true rfl⟩ rfl hl.1 rfl (Nat.le_of_ble_eq_true rfl) dX12_findMoves_52 (fun H locs hM => ?_)
        clear ho
        refine lv_iconst (v := (1 : Int32)) hx hb dX12_findMoves_55 (by decide) ?_
        refine lv_icmp_ne (tgt := 75) hx hb dX12_findMoves_56 (by decide) (fun cc1 => ?_) (fun cc1 => ?_)
        · replace hf := m_ifF hf cc1
          exact w_findMoves_75 X hret hself7 hself15 hf hM (lv_sub hl [0, 1, 2] rfl)
        · replace hf := m_ifT hf cc1
          refine lv_iload_n hx hb dX12_findMoves_59 rfl (lv_at hl 2 rfl) ?_
          refine lv_bipush (v := (8 : Int32)) hx hb dX12_findMoves_60 (by decide) ?_
          refine lv_icmp_lt (tgt := 71) hx hb dX12_findMoves_62 (by decide) (fun cc1 => ?_) (fun cc1 => ?_)
          · replace hf := m_ifT hf cc1
            exact w_findMoves_71 X hret hself7 hself15 hf hM (lv_sub hl [0, 1, 2] rfl)
          · replace hf := m_ifF hf cc1
            refine lv_iload_n hx hb dX12_findMoves_65 rfl (lv_at hl 2 rfl) ?_
            refine lv_bipush (v := (55 : Int32)) hx hb dX12_findMoves_66 (by decide) ?_
            refine lv_icmp_le (tgt := 75) hx hb dX12_findMoves_68 (by decide) (fun cc1 => ?_) (fun cc1 => ?_)
            · replace hf := m_ifT hf cc1
              exact w_findMoves_75 X hret hself7 hself15 hf hM (lv_sub hl [0, 1, 2] rfl)
            · replace hf := m_ifF hf cc1
              exact w_findMoves_71 X hret hself7 hself15 hf hM (lv_sub hl [0, 1, 2] rfl)
noncomputable def f_findMoves_15 (self7 : Int32 → (Nat → Int32) → (Nat → Nat → Int32) → Option (Int32 × MS)) : Nat → Int32 → Int32 → (Nat → Int32) → (Nat → Nat → Int32) → Option (Int32 × MS)
  | 0 => fun _ _ _ _ => none
  | n + 1 => f_findMoves_15s self7 (f_findMoves_15 self7 n)
theorem w_findMoves_15 {p : Program} {l : Launch} {e : Env} {s : State} {m : MethodId} {args : Array Value} {below : List Frame} {meth : Method} {c : Code} {Q : State → Prop} {D : va_G} {cy ci : ClassId} {h : Nat → Nat} {A0 : Nat → Prop} {o : Int32 × MS} (X : CallFix p m c cX12_findMoves 6 s args wsX12_findMoves RX12) (hret : mRv p l e ({ frames := 5, cells := 0, slots := 0, locals := 132 } : Room) s m args below meth c Q cX12_findMoves D cy ci h A0 o) {self7 : Int32 → (Nat → Int32) → (Nat → Nat → Int32) → Option (Int32 × MS)} (hself7 : ∀ (x1 : Int32) (I : Nat → Int32) (A : Nat → Nat → Int32) (H : Heap) (locs : List Loc) (ls : Array Slot), self7 x1 I A = some o → mH D cy ci h A0 s H locs I A → lv_has ls 6 [(0, .ref (h 0)), (1, .int x1)] → W p l e ({ frames := 5, cells := 0, slots := 0, locals := 132 } : Room) s m args below meth c H locs 0 0 Q (F0 m 7 ls [])) (n : Nat) : ∀ (x1 : Int32) (x2 : Int32) (I : Nat → Int32) (A : Nat → Nat → Int32) (H : Heap) (locs : List Loc) (ls : Array Slot), f_findMoves_15 self7 n x1 x2 I A = some o → mH D cy ci h A0 s H locs I A → lv_has ls 6 [(0, .ref (h 0)), (1, .int x1), (2, .int x2)] → W p l e ({ frames := 5, cells := 0, slots := 0, locals := 132 } : Room) s m args below meth c H locs 0 0 Q (F0 m 15 ls []) := by
  induction n with
  | zero => intro x1 x2 I A H locs ls hf; cases hf
  | succ n ih => intro x1 x2 I A H locs ls hf hM hl; exact ws_findMoves_15 X hret hself7 (self15 := f_findMoves_15 self7 n) ih hf hM hl
noncomputable def f_findMoves_7s (self7 : Int32 → (Nat → Int32) → (Nat → Nat → Int32) → Option (Int32 × MS)) (x1 : Int32) (I : Nat → Int32) (A : Nat → Nat → Int32) : Option (Int32 × MS) :=
  m_if ((64 : Int32) ≤ x1) (
  some (0, (I, A))
  ) (
  f_findMoves_15 self7 mFuel x1 (0 : Int32) I A
  )

set_option maxRecDepth 100000 in
set_option maxHeartbeats 4000000 in
theorem ws_findMoves_7 {p : Program} {l : Launch} {e : Env} {s : State} {m : MethodId} {args : Array Value} {below : List Frame} {meth : Method} {c : Code} {Q : State → Prop} {D : va_G} {cy ci : ClassId} {h : Nat → Nat} {A0 : Nat → Prop} {o : Int32 × MS} (X : CallFix p m c cX12_findMoves 6 s args wsX12_findMoves RX12) (hret : mRv p l e ({ frames := 5, cells := 0, slots := 0, locals := 132 } : Room) s m args below meth c Q cX12_findMoves D cy ci h A0 o) {self7 : Int32 → (Nat → Int32) → (Nat → Nat → Int32) → Option (Int32 × MS)} (hself7 : ∀ (x1 : Int32) (I : Nat → Int32) (A : Nat → Nat → Int32) (H : Heap) (locs : List Loc) (ls : Array Slot), self7 x1 I A = some o → mH D cy ci h A0 s H locs I A → lv_has ls 6 [(0, .ref (h 0)), (1, .int x1)] → W p l e ({ frames := 5, cells := 0, slots := 0, locals := 132 } : Room) s m args below meth c H locs 0 0 Q (F0 m 7 ls [])) {x1 : Int32} {I : Nat → Int32} {A : Nat → Nat → Int32} {H : Heap} {locs : List Loc} {ls : Array Slot} (hf : f_findMoves_7s self7 x1 I A = some o) (hM : mH D cy ci h A0 s H locs I A) (hl : lv_has ls 6 [(0, .ref (h 0)), (1, .int x1)]) : W p l e ({ frames := 5, cells := 0, slots := 0, locals := 132 } : Room) s m args below meth c H locs 0 0 Q (F0 m 7 ls []) := by
  obtain ⟨hx, hb, hml, hown, hts⟩ := id X
  unfold f_findMoves_7s at hf
  refine lv_iload_n hx hb dX12_findMoves_7 rfl (lv_at hl 1 rfl) ?_
  refine lv_bipush (v := (64 : Int32)) hx hb dX12_findMoves_8 (by decide) ?_
  refine lv_icmp_ge (tgt := 169) hx hb dX12_findMoves_10 (by decide) (fun cc1 => ?_) (fun cc1 => ?_)
  · replace hf := m_ifT hf cc1
    cases hf
    exact hret H locs _ ls hM dX12_findMoves_169
  · replace hf := m_ifF hf cc1
    refine lv_iconst (v := (0 : Int32)) hx hb dX12_findMoves_13 (by decide) ?_
    refine lv_istore_n (lv' := [(2, .int (0 : Int32)), (0, .ref (h 0)), (1, .int x1)]) hx hb dX12_findMoves_14 rfl hl (by decide) rfl (fun ls hl => ?_)
    exact w_findMoves_15 X hret hself7 _ _ _ _ _ _ _ _ hf hM (lv_sub hl [1, 2, 0] rfl)
noncomputable def f_findMoves_7 : Nat → Int32 → (Nat → Int32) → (Nat → Nat → Int32) → Option (Int32 × MS)
  | 0 => fun _ _ _ => none
  | n + 1 => f_findMoves_7s (f_findMoves_7 n)
theorem w_findMoves_7 {p : Program} {l : Launch} {e : Env} {s : State} {m : MethodId} {args : Array Value} {below : List Frame} {meth : Method} {c : Code} {Q : State → Prop} {D : va_G} {cy ci : ClassId} {h : Nat → Nat} {A0 : Nat → Prop} {o : Int32 × MS} (X : CallFix p m c cX12_findMoves 6 s args wsX12_findMoves RX12) (hret : mRv p l e ({ frames := 5, cells := 0, slots := 0, locals := 132 } : Room) s m args below meth c Q cX12_findMoves D cy ci h A0 o) (n : Nat) : ∀ (x1 : Int32) (I : Nat → Int32) (A : Nat → Nat → Int32) (H : Heap) (locs : List Loc) (ls : Array Slot), f_findMoves_7 n x1 I A = some o → mH D cy ci h A0 s H locs I A → lv_has ls 6 [(0, .ref (h 0)), (1, .int x1)] → W p l e ({ frames := 5, cells := 0, slots := 0, locals := 132 } : Room) s m args below meth c H locs 0 0 Q (F0 m 7 ls []) := by
  induction n with
  | zero => intro x1 I A H locs ls hf; cases hf
  | succ n ih => intro x1 I A H locs ls hf hM hl; exact ws_findMoves_7 X hret (self7 := f_findMoves_7 n) ih hf hM hl
noncomputable def f_findMoves_0 (I : Nat → Int32) (A : Nat → Nat → Int32) : Option (Int32 × MS) :=
  m_bnd (upd I 33 (0 : Int32)) (fun I1 =>
  f_findMoves_7 mFuel (0 : Int32) I1 A)

set_option maxRecDepth 100000 in
set_option maxHeartbeats 4000000 in
theorem w_findMoves_0 {p : Program} {l : Launch} {e : Env} {s : State} {m : MethodId} {args : Array Value} {below : List Frame} {meth : Method} {c : Code} {Q : State → Prop} {D : va_G} {cy ci : ClassId} {h : Nat → Nat} {A0 : Nat → Prop} {o : Int32 × MS} (X : CallFix p m c cX12_findMoves 6 s args wsX12_findMoves RX12) (hret : mRv p l e ({ frames := 5, cells := 0, slots := 0, locals := 132 } : Room) s m args below meth c Q cX12_findMoves D cy ci h A0 o) {I : Nat → Int32} {A : Nat → Nat → Int32} {H : Heap} {locs : List Loc} {ls : Array Slot} (hf : f_findMoves_0  I A = some o) (hM : mH D cy ci h A0 s H locs I A) (hl : lv_has ls 6 [(0, .ref (h 0))]) : W p l e ({ frames := 5, cells := 0, slots := 0, locals := 132 } : Room) s m args below meth c H locs 0 0 Q (F0 m 0 ls []) := by
  obtain ⟨hx, hb, hml, hown, hts⟩ := id X
  unfold f_findMoves_0 at hf
  refine lv_aload_n hx hb dX12_findMoves_0 rfl (lv_at hl 0 rfl) ?_
  refine lv_iconst (v := (0 : Int32)) hx hb dX12_findMoves_1 (by decide) ?_
  refine m_put X hw_findMoves hM 33 (by decide) fl_findMoves_33 mi_33 rfl (tyX12_ok 33 (by decide)) dX12_findMoves_2 (fun H locs hM => ?_)
  obtain ⟨I1, ev, hf⟩ := m_bndE hf
  replace hM := m_hI hM ev
  clear ev
  refine lv_iconst (v := (0 : Int32)) hx hb dX12_findMoves_5 (by decide) ?_
  refine lv_istore_n (lv' := [(1, .int (0 : Int32)), (0, .ref (h 0))]) hx hb dX12_findMoves_6 rfl hl (by decide) rfl (fun ls hl => ?_)
  exact w_findMoves_7 X hret _ _ _ _ _ _ _ hf hM (lv_sub hl [1, 0] rfl)
noncomputable def f_findMoves (I : Nat → Int32) (A : Nat → Nat → Int32) : Option (Int32 × MS) := f_findMoves_0  I A
theorem c_findMoves {l : Launch} {D : va_G} {cy ci : ClassId} {h : Nat → Nat} {I : Nat → Int32} {A : Nat → Nat → Int32} {o : Int32 × MS} (hf : f_findMoves  I A = some o) : mMv l yX12_findMoves wsX12_findMoves ({ frames := 5, cells := 0, slots := 0, locals := 132 } : Room) [.ref (h 0)] D cy ci h I A o :=
  m_entryV (cc := cX12_findMoves) (maxL := 6) (by decide) rfl rfl (Nat.le_of_ble_eq_true rfl) (fun p e s m args below meth c A0 Q H locs ls X hret hM hl => w_findMoves_0 X hret hf hM (lv_sub hl [0] rfl))
end
section
theorem hw_place : ∀ w ∈ wsX120, w ∈ wsX12_place := by decide +kernel
theorem fl_place_8 : Cond.fieldLink RX12 21 "MoveTextsModel" "parent" "[I" ∈ wsX12_place := by decide +kernel
theorem fl_place_9 : Cond.fieldLink RX12 24 "MoveTextsModel" "moveOf" "[I" ∈ wsX12_place := by decide +kernel
theorem fl_place_16 : Cond.fieldLink RX12 46 "MoveTextsModel" "startMen" "[I" ∈ wsX12_place := by decide +kernel
theorem fl_place_17 : Cond.fieldLink RX12 49 "MoveTextsModel" "startRest" "[I" ∈ wsX12_place := by decide +kernel
theorem fl_place_24 : Cond.fieldLink RX12 70 "MoveTextsModel" "men" "[I" ∈ wsX12_place := by decide +kernel
theorem fl_place_25 : Cond.fieldLink RX12 121 "MoveTextsModel" "side" "I" ∈ wsX12_place := by decide +kernel
theorem fl_place_26 : Cond.fieldLink RX12 124 "MoveTextsModel" "rights" "I" ∈ wsX12_place := by decide +kernel
theorem fl_place_27 : Cond.fieldLink RX12 127 "MoveTextsModel" "passed" "I" ∈ wsX12_place := by decide +kernel
theorem fl_place_28 : Cond.fieldLink RX12 130 "MoveTextsModel" "clock" "I" ∈ wsX12_place := by decide +kernel
theorem fl_place_29 : Cond.fieldLink RX12 133 "MoveTextsModel" "number" "I" ∈ wsX12_place := by decide +kernel
theorem fl_place_34 : Cond.fieldLink RX12 82 "MoveTextsModel" "path" "[I" ∈ wsX12_place := by decide +kernel
theorem hd_place : yX12_place.cls = RX12 ∧ yX12_place.cls ≠ "java/lang/invoke/MethodHandle" ∧ yX12_place.cls ≠ "java/lang/invoke/VarHandle" ∧ (parseMethodDescriptor yX12_place.desc).map (fun d => d.parameters.length) = some 2 := by decide +kernel
noncomputable def f_place_147s (self147 : Int32 → Int32 → (Nat → Int32) → (Nat → Nat → Int32) → Option (Int32 × MS)) (x1 : Int32) (x4 : Int32) (I : Nat → Int32) (A : Nat → Nat → Int32) : Option (Int32 × MS) :=
  m_if (x4 < 0) (
  m_cl (f_findMoves  I A) (fun r1 Ic1 Ac1 =>
  some (0, (Ic1, Ac1)))
  ) (
  m_bnd ((301 : Int32) * x1) (fun v2 =>
  m_chk (¬ (x4 < 0 ∨ 301 ≤ (x4).toNatClampNeg)) (
  m_bnd (A 34 (x4).toNatClampNeg) (fun v3 =>
  m_bnd (v2 + v3) (fun v4 =>
  m_chk (¬ (v4 < 0 ∨ 602 ≤ (v4).toNatClampNeg)) (
  m_bnd (A 9 (v4).toNatClampNeg) (fun v5 =>
  m_cl (f_make v5 I A) (fun r6 Ic6 Ac6 =>
  m_bnd (x4 + (-1 : Int32)) (fun v7 =>
  self147 x1 v7 Ic6 Ac6))))))))
  )

set_option maxRecDepth 100000 in
set_option maxHeartbeats 4000000 in
theorem ws_place_147 {p : Program} {l : Launch} {e : Env} {s : State} {m : MethodId} {args : Array Value} {below : List Frame} {meth : Method} {c : Code} {Q : State → Prop} {D : va_G} {cy ci : ClassId} {h : Nat → Nat} {A0 : Nat → Prop} {o : Int32 × MS} (X : CallFix p m c cX12_place 5 s args wsX12_place RX12) (hret : mRv p l e ({ frames := 6, cells := 0, slots := 0, locals := 157 } : Room) s m args below meth c Q cX12_place D cy ci h A0 o) {self147 : Int32 → Int32 → (Nat → Int32) → (Nat → Nat → Int32) → Option (Int32 × MS)} (hself147 : ∀ (x1 : Int32) (x4 : Int32) (I : Nat → Int32) (A : Nat → Nat → Int32) (H : Heap) (locs : List Loc) (ls : Array Slot), self147 x1 x4 I A = some o → mH D cy ci h A0 s H locs I A → lv_has ls 5 [(0, .ref (h 0)), (1, .int x1), (4, .int x4)] → W p l e ({ frames := 6, cells := 0, slots := 0, locals := 157 } : Room) s m args below meth c H locs 0 0 Q (F0 m 147 ls [])) {x1 : Int32} {x4 : Int32} {I : Nat → Int32} {A : Nat → Nat → Int32} {H : Heap} {locs : List Loc} {ls : Array Slot} (hf : f_place_147s self147 x1 x4 I A = some o) (hM : mH D cy ci h A0 s H locs I A) (hl : lv_has ls 5 [(0, .ref (h 0)), (1, .int x1), (4, .int x4)]) : W p l e ({ frames := 6, cells := 0, slots := 0, locals := 157 } : Room) s m args below meth c H locs 0 0 Q (F0 m 147 ls []) := by
  obtain ⟨hx, hb, hml, hown, hts⟩ := id X
  unfold f_place_147s at hf
  refine lv_iload hx hb dX12_place_147 (lv_at hl 2 rfl) ?_
  refine lv_if_lt (tgt := 180) hx hb dX12_place_149 (by decide) (fun cc1 => ?_) (fun cc1 => ?_)
  · replace hf := m_ifT hf cc1
    refine lv_aload_n hx hb dX12_place_180 rfl (lv_at hl 0 rfl) ?_
    obtain ⟨o1, ho, hf⟩ := m_clE hf
    refine m_callVv X hM (c_findMoves ho) gX12_place_X12_findMoves rfl ⟨rfl, rfl⟩ hd_findMoves ⟨Nat.le_of_ble_eq_true rfl, Nat.le_of_ble_eq_true rfl⟩ rfl hl.1 rfl (Nat.le_of_ble_eq_true rfl) dX12_place_181 (fun H locs hM => ?_)
    clear ho
    cases hf
    exact hret H locs _ ls hM dX12_place_184
  · replace hf := m_ifF hf cc1
    refine lv_aload_n hx hb dX12_place_152 rfl (lv_at hl 0 rfl) ?_
    refine lv_aload_n hx hb dX12_place_153 rfl (lv_at hl 0 rfl) ?_
    refine m_get (v := .ref (h 9)) X hw_place hM 9 (by decide) fl_place_9 rfl dX12_place_154 ?_
    refine lv_sipush (v := (301 : Int32)) hx hb dX12_place_157 (by decide) ?_
    refine lv_iload_n hx hb dX12_place_160 rfl (lv_at hl 1 rfl) ?_
    refine lv_imul hx hb dX12_place_161 ?_
    obtain ⟨v2, ev, hf⟩ := m_bndE hf
    refine m_top ev ?_
    clear ev
    refine lv_aload_n hx hb dX12_place_162 rfl (lv_at hl 0 rfl) ?_
    refine m_get (v := .ref (h 34)) X hw_place hM 34 (by decide) fl_place_34 rfl dX12_place_163 ?_
    refine lv_iload hx hb dX12_place_166 (lv_at hl 2 rfl) ?_
    obtain ⟨cd, hf⟩ := m_chkE hf
    refine m_iald X hM 34 24 301 rfl cd dX12_place_168 ?_
    clear cd
    obtain ⟨v3, ev, hf⟩ := m_bndE hf
    refine m_top ev ?_
    clear ev
    refine lv_iadd hx hb dX12_place_169 ?_
    obtain ⟨v4, ev, hf⟩ := m_bndE hf
    refine m_top ev ?_
    clear ev
    obtain ⟨cd, hf⟩ := m_chkE hf
    refine m_iald X hM 9 5 602 rfl cd dX12_place_170 ?_
    clear cd
    obtain ⟨v5, ev, hf⟩ := m_bndE hf
    refine m_top ev ?_
    clear ev
    obtain ⟨o6, ho, hf⟩ := m_clE hf
    refine m_callVv X hM (c_make ho) gX12_place_X12_make rfl ⟨rfl, rfl⟩ hd_make ⟨Nat.le_of_ble_eq_true rfl, Nat.le_of_ble_eq_true rfl⟩ rfl hl.1 rfl (Nat.le_of_ble_eq_true rfl) dX12_place_171 (fun H locs hM => ?_)
    clear ho
    obtain ⟨v7, ev, hf⟩ := m_bndE hf
    refine lv_iinc (v := v7) (lv' := [(4, .int v7), (0, .ref (h 0)), (1, .int x1)]) hx hb dX12_place_174 hl (k := 2) rfl (by rw [ev]; rfl) (by decide) rfl (fun ls hl => ?_)
    clear ev
    refine lv_goto (tgt := 147) hx hb dX12_place_177 (by decide) ?_
    exact hself147 _ _ _ _ _ _ _ hf hM (lv_sub hl [1, 2, 0] rfl)
noncomputable def f_place_147 : Nat → Int32 → Int32 → (Nat → Int32) → (Nat → Nat → Int32) → Option (Int32 × MS)
  | 0 => fun _ _ _ _ => none
  | n + 1 => f_place_147s (f_place_147 n)
theorem w_place_147 {p : Program} {l : Launch} {e : Env} {s : State} {m : MethodId} {args : Array Value} {below : List Frame} {meth : Method} {c : Code} {Q : State → Prop} {D : va_G} {cy ci : ClassId} {h : Nat → Nat} {A0 : Nat → Prop} {o : Int32 × MS} (X : CallFix p m c cX12_place 5 s args wsX12_place RX12) (hret : mRv p l e ({ frames := 6, cells := 0, slots := 0, locals := 157 } : Room) s m args below meth c Q cX12_place D cy ci h A0 o) (n : Nat) : ∀ (x1 : Int32) (x4 : Int32) (I : Nat → Int32) (A : Nat → Nat → Int32) (H : Heap) (locs : List Loc) (ls : Array Slot), f_place_147 n x1 x4 I A = some o → mH D cy ci h A0 s H locs I A → lv_has ls 5 [(0, .ref (h 0)), (1, .int x1), (4, .int x4)] → W p l e ({ frames := 6, cells := 0, slots := 0, locals := 157 } : Room) s m args below meth c H locs 0 0 Q (F0 m 147 ls []) := by
  induction n with
  | zero => intro x1 x4 I A H locs ls hf; cases hf
  | succ n ih => intro x1 x4 I A H locs ls hf hM hl; exact ws_place_147 X hret (self147 := f_place_147 n) ih hf hM hl
noncomputable def f_place_42s (self42 : Int32 → Int32 → Int32 → (Nat → Int32) → (Nat → Nat → Int32) → Option (Int32 × MS)) (x1 : Int32) (x3 : Int32) (x4 : Int32) (I : Nat → Int32) (A : Nat → Nat → Int32) : Option (Int32 × MS) :=
  m_if ((64 : Int32) ≤ x4) (
  m_bnd ((5 : Int32) * x1) (fun v1 =>
  m_chk (¬ (v1 < 0 ∨ 10 ≤ (v1).toNatClampNeg)) (
  m_bnd (A 17 (v1).toNatClampNeg) (fun v2 =>
  m_bnd (upd I 25 v2) (fun I3 =>
  m_bnd ((5 : Int32) * x1) (fun v4 =>
  m_bnd (v4 + (1 : Int32)) (fun v5 =>
  m_chk (¬ (v5 < 0 ∨ 10 ≤ (v5).toNatClampNeg)) (
  m_bnd (A 17 (v5).toNatClampNeg) (fun v6 =>
  m_bnd (upd I3 26 v6) (fun I7 =>
  m_bnd ((5 : Int32) * x1) (fun v8 =>
  m_bnd (v8 + (2 : Int32)) (fun v9 =>
  m_chk (¬ (v9 < 0 ∨ 10 ≤ (v9).toNatClampNeg)) (
  m_bnd (A 17 (v9).toNatClampNeg) (fun v10 =>
  m_bnd (upd I7 27 v10) (fun I11 =>
  m_bnd ((5 : Int32) * x1) (fun v12 =>
  m_bnd (v12 + (3 : Int32)) (fun v13 =>
  m_chk (¬ (v13 < 0 ∨ 10 ≤ (v13).toNatClampNeg)) (
  m_bnd (A 17 (v13).toNatClampNeg) (fun v14 =>
  m_bnd (upd I11 28 v14) (fun I15 =>
  m_bnd ((5 : Int32) * x1) (fun v16 =>
  m_bnd (v16 + (4 : Int32)) (fun v17 =>
  m_chk (¬ (v17 < 0 ∨ 10 ≤ (v17).toNatClampNeg)) (
  m_bnd (A 17 (v17).toNatClampNeg) (fun v18 =>
  m_bnd (upd I15 29 v18) (fun I19 =>
  m_bnd (x3 - (1 : Int32)) (fun v20 =>
  f_place_147 mFuel x1 v20 I19 A)))))))))))))))))))))))))
  ) (
  m_bnd ((64 : Int32) * x1) (fun v21 =>
  m_bnd (v21 + x4) (fun v22 =>
  m_chk (¬ (v22 < 0 ∨ 128 ≤ (v22).toNatClampNeg)) (
  m_bnd (A 16 (v22).toNatClampNeg) (fun v23 =>
  m_chk (¬ (x4 < 0 ∨ 64 ≤ (x4).toNatClampNeg)) (
  m_bnd (va_up A 24 (upd (A 24) (x4).toNatClampNeg v23)) (fun A24 =>
  m_bnd (x4 + (1 : Int32)) (fun v25 =>
  self42 x1 x3 v25 I A24)))))))
  )

set_option maxRecDepth 100000 in
set_option maxHeartbeats 4000000 in
theorem ws_place_42 {p : Program} {l : Launch} {e : Env} {s : State} {m : MethodId} {args : Array Value} {below : List Frame} {meth : Method} {c : Code} {Q : State → Prop} {D : va_G} {cy ci : ClassId} {h : Nat → Nat} {A0 : Nat → Prop} {o : Int32 × MS} (X : CallFix p m c cX12_place 5 s args wsX12_place RX12) (hret : mRv p l e ({ frames := 6, cells := 0, slots := 0, locals := 157 } : Room) s m args below meth c Q cX12_place D cy ci h A0 o) {self42 : Int32 → Int32 → Int32 → (Nat → Int32) → (Nat → Nat → Int32) → Option (Int32 × MS)} (hself42 : ∀ (x1 : Int32) (x3 : Int32) (x4 : Int32) (I : Nat → Int32) (A : Nat → Nat → Int32) (H : Heap) (locs : List Loc) (ls : Array Slot), self42 x1 x3 x4 I A = some o → mH D cy ci h A0 s H locs I A → lv_has ls 5 [(0, .ref (h 0)), (1, .int x1), (3, .int x3), (4, .int x4)] → W p l e ({ frames := 6, cells := 0, slots := 0, locals := 157 } : Room) s m args below meth c H locs 0 0 Q (F0 m 42 ls [])) {x1 : Int32} {x3 : Int32} {x4 : Int32} {I : Nat → Int32} {A : Nat → Nat → Int32} {H : Heap} {locs : List Loc} {ls : Array Slot} (hf : f_place_42s self42 x1 x3 x4 I A = some o) (hM : mH D cy ci h A0 s H locs I A) (hl : lv_has ls 5 [(0, .ref (h 0)), (1, .int x1), (3, .int x3), (4, .int x4)]) : W p l e ({ frames := 6, cells := 0, slots := 0, locals := 157 } : Room) s m args below meth c H locs 0 0 Q (F0 m 42 ls []) := by
  obtain ⟨hx, hb, hml, hown, hts⟩ := id X
  unfold f_place_42s at hf
  refine lv_iload hx hb dX12_place_42 (lv_at hl 3 rfl) ?_
  refine lv_bipush (v := (64 : Int32)) hx hb dX12_place_44 (by decide) ?_
  refine lv_icmp_ge (tgt := 74) hx hb dX12_place_46 (by decide) (fun cc1 => ?_) (fun cc1 => ?_)
  · replace hf := m_ifT hf cc1
    refine lv_aload_n hx hb dX12_place_74 rfl (lv_at hl 0 rfl) ?_
    refine lv_aload_n hx hb dX12_place_75 rfl (lv_at hl 0 rfl) ?_
    refine m_get (v := .ref (h 17)) X hw_place hM 17 (by decide) fl_place_17 rfl dX12_place_76 ?_
    refine lv_iconst (v := (5 : Int32)) hx hb dX12_place_79 (by decide) ?_
    refine lv_iload_n hx hb dX12_place_80 rfl (lv_at hl 1 rfl) ?_
    refine lv_imul hx hb dX12_place_81 ?_
    obtain ⟨v1, ev, hf⟩ := m_bndE hf
    refine m_top ev ?_
    clear ev
    obtain ⟨cd, hf⟩ := m_chkE hf
    refine m_iald X hM 17 13 10 rfl cd dX12_place_82 ?_
    clear cd
    obtain ⟨v2, ev, hf⟩ := m_bndE hf
    refine m_top ev ?_
    clear ev
    refine m_put X hw_place hM 25 (by decide) fl_place_25 mi_25 rfl (tyX12_ok 25 (by decide)) dX12_place_83 (fun H locs hM => ?_)
    obtain ⟨I3, ev, hf⟩ := m_bndE hf
    replace hM := m_hI hM ev
    clear ev
    refine lv_aload_n hx hb dX12_place_86 rfl (lv_at hl 0 rfl) ?_
    refine lv_aload_n hx hb dX12_place_87 rfl (lv_at hl 0 rfl) ?_
    refine m_get (v := .ref (h 17)) X hw_place hM 17 (by decide) fl_place_17 rfl dX12_place_88 ?_
    refine lv_iconst (v := (5 : Int32)) hx hb dX12_place_91 (by decide) ?_
    refine lv_iload_n hx hb dX12_place_92 rfl (lv_at hl 1 rfl) ?_
    refine lv_imul hx hb dX12_place_93 ?_
    obtain ⟨v4, ev, hf⟩ := m_bndE hf
    refine m_top ev ?_
    clear ev
    refine lv_iconst (v := (1 : Int32)) hx hb dX12_place_94 (by decide) ?_
    refine lv_iadd hx hb dX12_place_95 ?_
    obtain ⟨v5, ev, hf⟩ := m_bndE hf
    refine m_top ev ?_
    clear ev
    obtain ⟨cd, hf⟩ := m_chkE hf
    refine m_iald X hM 17 13 10 rfl cd dX12_place_96 ?_
    clear cd
    obtain ⟨v6, ev, hf⟩ := m_bndE hf
    refine m_top ev ?_
    clear ev
    refine m_put X hw_place hM 26 (by decide) fl_place_26 mi_26 rfl (tyX12_ok 26 (by decide)) dX12_place_97 (fun H locs hM => ?_)
    obtain ⟨I7, ev, hf⟩ := m_bndE hf
    replace hM := m_hI hM ev
    clear ev
    refine lv_aload_n hx hb dX12_place_100 rfl (lv_at hl 0 rfl) ?_
    refine lv_aload_n hx hb dX12_place_101 rfl (lv_at hl 0 rfl) ?_
    refine m_get (v := .ref (h 17)) X hw_place hM 17 (by decide) fl_place_17 rfl dX12_place_102 ?_
    refine lv_iconst (v := (5 : Int32)) hx hb dX12_place_105 (by decide) ?_
    refine lv_iload_n hx hb dX12_place_106 rfl (lv_at hl 1 rfl) ?_
    refine lv_imul hx hb dX12_place_107 ?_
    obtain ⟨v8, ev, hf⟩ := m_bndE hf
    refine m_top ev ?_
    clear ev
    refine lv_iconst (v := (2 : Int32)) hx hb dX12_place_108 (by decide) ?_
    refine lv_iadd hx hb dX12_place_109 ?_
    obtain ⟨v9, ev, hf⟩ := m_bndE hf
    refine m_top ev ?_
    clear ev
    obtain ⟨cd, hf⟩ := m_chkE hf
    refine m_iald X hM 17 13 10 rfl cd dX12_place_110 ?_
    clear cd
    obtain ⟨v10, ev, hf⟩ := m_bndE hf
    refine m_top ev ?_
    clear ev
    refine m_put X hw_place hM 27 (by decide) fl_place_27 mi_27 rfl (tyX12_ok 27 (by decide)) dX12_place_111 (fun H locs hM => ?_)
    obtain ⟨I11, ev, hf⟩ := m_bndE hf
    replace hM := m_hI hM ev
    clear ev
    refine lv_aload_n hx hb dX12_place_114 rfl (lv_at hl 0 rfl) ?_
    refine lv_aload_n hx hb dX12_place_115 rfl (lv_at hl 0 rfl) ?_
    refine m_get (v := .ref (h 17)) X hw_place hM 17 (by decide) fl_place_17 rfl dX12_place_116 ?_
    refine lv_iconst (v := (5 : Int32)) hx hb dX12_place_119 (by decide) ?_
    refine lv_iload_n hx hb dX12_place_120 rfl (lv_at hl 1 rfl) ?_
    refine lv_imul hx hb dX12_place_121 ?_
    obtain ⟨v12, ev, hf⟩ := m_bndE hf
    refine m_top ev ?_
    clear ev
    refine lv_iconst (v := (3 : Int32)) hx hb dX12_place_122 (by decide) ?_
    refine lv_iadd hx hb dX12_place_123 ?_
    obtain ⟨v13, ev, hf⟩ := m_bndE hf
    refine m_top ev ?_
    clear ev
    obtain ⟨cd, hf⟩ := m_chkE hf
    refine m_iald X hM 17 13 10 rfl cd dX12_place_124 ?_
    clear cd
    obtain ⟨v14, ev, hf⟩ := m_bndE hf
    refine m_top ev ?_
    clear ev
    refine m_put X hw_place hM 28 (by decide) fl_place_28 mi_28 rfl (tyX12_ok 28 (by decide)) dX12_place_125 (fun H locs hM => ?_)
    obtain ⟨I15, ev, hf⟩ := m_bndE hf
    replace hM := m_hI hM ev
    clear ev
    refine lv_aload_n hx hb dX12_place_128 rfl (lv_at hl 0 rfl) ?_
    refine lv_aload_n hx hb dX12_place_129 rfl (lv_at hl 0 rfl) ?_
    refine m_get (v := .ref (h 17)) X hw_place hM 17 (by decide) fl_place_17 rfl dX12_place_130 ?_
    refine lv_iconst (v := (5 : Int32)) hx hb dX12_place_133 (by decide) ?_
    refine lv_iload_n hx hb dX12_place_134 rfl (lv_at hl 1 rfl) ?_
    refine lv_imul hx hb dX12_place_135 ?_
    obtain ⟨v16, ev, hf⟩ := m_bndE hf
    refine m_top ev ?_
    clear ev
    refine lv_iconst (v := (4 : Int32)) hx hb dX12_place_136 (by decide) ?_
    refine lv_iadd hx hb dX12_place_137 ?_
    obtain ⟨v17, ev, hf⟩ := m_bndE hf
    refine m_top ev ?_
    clear ev
    obtain ⟨cd, hf⟩ := m_chkE hf
    refine m_iald X hM 17 13 10 rfl cd dX12_place_138 ?_
    clear cd
    obtain ⟨v18, ev, hf⟩ := m_bndE hf
    refine m_top ev ?_
    clear ev
    refine m_put X hw_place hM 29 (by decide) fl_place_29 mi_29 rfl (tyX12_ok 29 (by decide)) dX12_place_139 (fun H locs hM => ?_)
    obtain ⟨I19, ev, hf⟩ := m_bndE hf
    replace hM := m_hI hM ev
    clear ev
    refine lv_iload_n hx hb dX12_place_142 rfl (lv_at hl 2 rfl) ?_
    refine lv_iconst (v := (1 : Int32)) hx hb dX12_place_143 (by decide) ?_
    refine lv_isub hx hb dX12_place_144 ?_
    obtain ⟨v20, ev, hf⟩ := m_bndE hf
    refine m_top ev ?_
    clear ev
    refine lv_istore (lv' := [(4, .int v20), (0, .ref (h 0)), (1, .int x1), (3, .int x3)]) hx hb dX12_place_145 hl (by decide) rfl (fun ls hl => ?_)
    exact w_place_147 X hret _ _ _ _ _ _ _ _ hf hM (lv_sub hl [1, 2, 0] rfl)
  · replace hf := m_ifF hf cc1
    refine lv_aload_n hx hb dX12_place_49 rfl (lv_at hl 0 rfl) ?_
    refine m_get (v := .ref (h 24)) X hw_place hM 24 (by decide) fl_place_24 rfl dX12_place_50 ?_
    refine lv_iload hx hb dX12_place_53 (lv_at hl 3 rfl) ?_
    refine lv_aload_n hx hb dX12_place_55 rfl (lv_at hl 0 rfl) ?_
    refine m_get (v := .ref (h 16)) X hw_place hM 16 (by decide) fl_place_16 rfl dX12_place_56 ?_
    refine lv_bipush (v := (64 : Int32)) hx hb dX12_place_59 (by decide) ?_
    refine lv_iload_n hx hb dX12_place_61 rfl (lv_at hl 1 rfl) ?_
    refine lv_imul hx hb dX12_place_62 ?_
    obtain ⟨v21, ev, hf⟩ := m_bndE hf
    refine m_top ev ?_
    clear ev
    refine lv_iload hx hb dX12_place_63 (lv_at hl 3 rfl) ?_
    refine lv_iadd hx hb dX12_place_65 ?_
    obtain ⟨v22, ev, hf⟩ := m_bndE hf
    refine m_top ev ?_
    clear ev
    obtain ⟨cd, hf⟩ := m_chkE hf
    refine m_iald X hM 16 12 128 rfl cd dX12_place_66 ?_
    clear cd
    obtain ⟨v23, ev, hf⟩ := m_bndE hf
    refine m_top ev ?_
    clear ev
    obtain ⟨cd, hf⟩ := m_chkE hf
    refine m_iast X hM 24 20 64 rfl ma_24 cd dX12_place_67 (fun H locs hM => ?_)
    clear cd
    obtain ⟨A24, ev, hf⟩ := m_bndE hf
    replace hM := m_hA hM ev
    clear ev
    obtain ⟨v25, ev, hf⟩ := m_bndE hf
    refine lv_iinc (v := v25) (lv' := [(4, .int v25), (0, .ref (h 0)), (1, .int x1), (3, .int x3)]) hx hb dX12_place_68 hl (k := 3) rfl (by rw [ev]; rfl) (by decide) rfl (fun ls hl => ?_)
    clear ev
    refine lv_goto (tgt := 42) hx hb dX12_place_71 (by decide) ?_
    exact hself42 _ _ _ _ _ _ _ _ hf hM (lv_sub hl [1, 2, 3, 0] rfl)
noncomputable def f_place_42 : Nat → Int32 → Int32 → Int32 → (Nat → Int32) → (Nat → Nat → Int32) → Option (Int32 × MS)
  | 0 => fun _ _ _ _ _ => none
  | n + 1 => f_place_42s (f_place_42 n)
theorem w_place_42 {p : Program} {l : Launch} {e : Env} {s : State} {m : MethodId} {args : Array Value} {below : List Frame} {meth : Method} {c : Code} {Q : State → Prop} {D : va_G} {cy ci : ClassId} {h : Nat → Nat} {A0 : Nat → Prop} {o : Int32 × MS} (X : CallFix p m c cX12_place 5 s args wsX12_place RX12) (hret : mRv p l e ({ frames := 6, cells := 0, slots := 0, locals := 157 } : Room) s m args below meth c Q cX12_place D cy ci h A0 o) (n : Nat) : ∀ (x1 : Int32) (x3 : Int32) (x4 : Int32) (I : Nat → Int32) (A : Nat → Nat → Int32) (H : Heap) (locs : List Loc) (ls : Array Slot), f_place_42 n x1 x3 x4 I A = some o → mH D cy ci h A0 s H locs I A → lv_has ls 5 [(0, .ref (h 0)), (1, .int x1), (3, .int x3), (4, .int x4)] → W p l e ({ frames := 6, cells := 0, slots := 0, locals := 157 } : Room) s m args below meth c H locs 0 0 Q (F0 m 42 ls []) := by
  induction n with
  | zero => intro x1 x3 x4 I A H locs ls hf; cases hf
  | succ n ih => intro x1 x3 x4 I A H locs ls hf hM hl; exact ws_place_42 X hret (self42 := f_place_42 n) ih hf hM hl
noncomputable def f_place_5s (self5 : Int32 → Int32 → Int32 → (Nat → Int32) → (Nat → Nat → Int32) → Option (Int32 × MS)) (x1 : Int32) (x3 : Int32) (x4 : Int32) (I : Nat → Int32) (A : Nat → Nat → Int32) : Option (Int32 × MS) :=
  m_if (x4 ≤ 0) (
  f_place_42 mFuel x1 x3 (0 : Int32) I A
  ) (
  m_chk (¬ (x3 < 0 ∨ 301 ≤ (x3).toNatClampNeg)) (
  m_bnd (va_up A 34 (upd (A 34) (x3).toNatClampNeg x4)) (fun A1 =>
  m_bnd (x3 + (1 : Int32)) (fun v2 =>
  m_bnd ((301 : Int32) * x1) (fun v3 =>
  m_bnd (v3 + x4) (fun v4 =>
  m_chk (¬ (v4 < 0 ∨ 602 ≤ (v4).toNatClampNeg)) (
  m_bnd (A1 8 (v4).toNatClampNeg) (fun v5 =>
  self5 x1 v2 v5 I A1)))))))
  )

set_option maxRecDepth 100000 in
set_option maxHeartbeats 4000000 in
theorem ws_place_5 {p : Program} {l : Launch} {e : Env} {s : State} {m : MethodId} {args : Array Value} {below : List Frame} {meth : Method} {c : Code} {Q : State → Prop} {D : va_G} {cy ci : ClassId} {h : Nat → Nat} {A0 : Nat → Prop} {o : Int32 × MS} (X : CallFix p m c cX12_place 5 s args wsX12_place RX12) (hret : mRv p l e ({ frames := 6, cells := 0, slots := 0, locals := 157 } : Room) s m args below meth c Q cX12_place D cy ci h A0 o) {self5 : Int32 → Int32 → Int32 → (Nat → Int32) → (Nat → Nat → Int32) → Option (Int32 × MS)} (hself5 : ∀ (x1 : Int32) (x3 : Int32) (x4 : Int32) (I : Nat → Int32) (A : Nat → Nat → Int32) (H : Heap) (locs : List Loc) (ls : Array Slot), self5 x1 x3 x4 I A = some o → mH D cy ci h A0 s H locs I A → lv_has ls 5 [(0, .ref (h 0)), (1, .int x1), (3, .int x3), (4, .int x4)] → W p l e ({ frames := 6, cells := 0, slots := 0, locals := 157 } : Room) s m args below meth c H locs 0 0 Q (F0 m 5 ls [])) {x1 : Int32} {x3 : Int32} {x4 : Int32} {I : Nat → Int32} {A : Nat → Nat → Int32} {H : Heap} {locs : List Loc} {ls : Array Slot} (hf : f_place_5s self5 x1 x3 x4 I A = some o) (hM : mH D cy ci h A0 s H locs I A) (hl : lv_has ls 5 [(0, .ref (h 0)), (1, .int x1), (3, .int x3), (4, .int x4)]) : W p l e ({ frames := 6, cells := 0, slots := 0, locals := 157 } : Room) s m args below meth c H locs 0 0 Q (F0 m 5 ls []) := by
  obtain ⟨hx, hb, hml, hown, hts⟩ := id X
  unfold f_place_5s at hf
  refine lv_iload hx hb dX12_place_5 (lv_at hl 3 rfl) ?_
  refine lv_if_le (tgt := 39) hx hb dX12_place_7 (by decide) (fun cc1 => ?_) (fun cc1 => ?_)
  · replace hf := m_ifT hf cc1
    refine lv_iconst (v := (0 : Int32)) hx hb dX12_place_39 (by decide) ?_
    refine lv_istore (lv' := [(4, .int (0 : Int32)), (0, .ref (h 0)), (1, .int x1), (3, .int x3)]) hx hb dX12_place_40 hl (by decide) rfl (fun ls hl => ?_)
    exact w_place_42 X hret _ _ _ _ _ _ _ _ _ hf hM (lv_sub hl [1, 2, 3, 0] rfl)
  · replace hf := m_ifF hf cc1
    refine lv_aload_n hx hb dX12_place_10 rfl (lv_at hl 0 rfl) ?_
    refine m_get (v := .ref (h 34)) X hw_place hM 34 (by decide) fl_place_34 rfl dX12_place_11 ?_
    refine lv_iload_n hx hb dX12_place_14 rfl (lv_at hl 2 rfl) ?_
    refine lv_iload hx hb dX12_place_15 (lv_at hl 3 rfl) ?_
    obtain ⟨cd, hf⟩ := m_chkE hf
    refine m_iast X hM 34 24 301 rfl ma_34 cd dX12_place_17 (fun H locs hM => ?_)
    clear cd
    obtain ⟨A1, ev, hf⟩ := m_bndE hf
    replace hM := m_hA hM ev
    clear ev
    obtain ⟨v2, ev, hf⟩ := m_bndE hf
    refine lv_iinc (v := v2) (lv' := [(3, .int v2), (0, .ref (h 0)), (1, .int x1), (4, .int x4)]) hx hb dX12_place_18 hl (k := 2) rfl (by rw [ev]; rfl) (by decide) rfl (fun ls hl => ?_)
    clear ev
    refine lv_aload_n hx hb dX12_place_21 rfl (lv_at hl 1 rfl) ?_
    refine m_get (v := .ref (h 8)) X hw_place hM 8 (by decide) fl_place_8 rfl dX12_place_22 ?_
    refine lv_sipush (v := (301 : Int32)) hx hb dX12_place_25 (by decide) ?_
    refine lv_iload_n hx hb dX12_place_28 rfl (lv_at hl 2 rfl) ?_
    refine lv_imul hx hb dX12_place_29 ?_
    obtain ⟨v3, ev, hf⟩ := m_bndE hf
    refine m_top ev ?_
    clear ev
    refine lv_iload hx hb dX12_place_30 (lv_at hl 3 rfl) ?_
    refine lv_iadd hx hb dX12_place_32 ?_
    obtain ⟨v4, ev, hf⟩ := m_bndE hf
    refine m_top ev ?_
    clear ev
    obtain ⟨cd, hf⟩ := m_chkE hf
    refine m_iald X hM 8 4 602 rfl cd dX12_place_33 ?_
    clear cd
    obtain ⟨v5, ev, hf⟩ := m_bndE hf
    refine m_top ev ?_
    clear ev
    refine lv_istore (lv' := [(4, .int v5), (3, .int v2), (0, .ref (h 0)), (1, .int x1)]) hx hb dX12_place_34 hl (by decide) rfl (fun ls hl => ?_)
    refine lv_goto (tgt := 5) hx hb dX12_place_36 (by decide) ?_
    exact hself5 _ _ _ _ _ _ _ _ hf hM (lv_sub hl [2, 3, 1, 0] rfl)
noncomputable def f_place_5 : Nat → Int32 → Int32 → Int32 → (Nat → Int32) → (Nat → Nat → Int32) → Option (Int32 × MS)
  | 0 => fun _ _ _ _ _ => none
  | n + 1 => f_place_5s (f_place_5 n)
theorem w_place_5 {p : Program} {l : Launch} {e : Env} {s : State} {m : MethodId} {args : Array Value} {below : List Frame} {meth : Method} {c : Code} {Q : State → Prop} {D : va_G} {cy ci : ClassId} {h : Nat → Nat} {A0 : Nat → Prop} {o : Int32 × MS} (X : CallFix p m c cX12_place 5 s args wsX12_place RX12) (hret : mRv p l e ({ frames := 6, cells := 0, slots := 0, locals := 157 } : Room) s m args below meth c Q cX12_place D cy ci h A0 o) (n : Nat) : ∀ (x1 : Int32) (x3 : Int32) (x4 : Int32) (I : Nat → Int32) (A : Nat → Nat → Int32) (H : Heap) (locs : List Loc) (ls : Array Slot), f_place_5 n x1 x3 x4 I A = some o → mH D cy ci h A0 s H locs I A → lv_has ls 5 [(0, .ref (h 0)), (1, .int x1), (3, .int x3), (4, .int x4)] → W p l e ({ frames := 6, cells := 0, slots := 0, locals := 157 } : Room) s m args below meth c H locs 0 0 Q (F0 m 5 ls []) := by
  induction n with
  | zero => intro x1 x3 x4 I A H locs ls hf; cases hf
  | succ n ih => intro x1 x3 x4 I A H locs ls hf hM hl; exact ws_place_5 X hret (self5 := f_place_5 n) ih hf hM hl
noncomputable def f_place_0 (x1 : Int32) (x2 : Int32) (I : Nat → Int32) (A : Nat → Nat → Int32) : Option (Int32 × MS) :=
  f_place_5 mFuel x1 (0 : Int32) x2 I A

set_option maxRecDepth 100000 in
set_option maxHeartbeats 4000000 in
theorem w_place_0 {p : Program} {l : Launch} {e : Env} {s : State} {m : MethodId} {args : Array Value} {below : List Frame} {meth : Method} {c : Code} {Q : State → Prop} {D : va_G} {cy ci : ClassId} {h : Nat → Nat} {A0 : Nat → Prop} {o : Int32 × MS} (X : CallFix p m c cX12_place 5 s args wsX12_place RX12) (hret : mRv p l e ({ frames := 6, cells := 0, slots := 0, locals := 157 } : Room) s m args below meth c Q cX12_place D cy ci h A0 o) {x1 : Int32} {x2 : Int32} {I : Nat → Int32} {A : Nat → Nat → Int32} {H : Heap} {locs : List Loc} {ls : Array Slot} (hf : f_place_0 x1 x2 I A = some o) (hM : mH D cy ci h A0 s H locs I A) (hl : lv_has ls 5 [(0, .ref (h 0)), (1, .int x1), (2, .int x2)]) : W p l e ({ frames := 6, cells := 0, slots := 0, locals := 157 } : Room) s m args below meth c H locs 0 0 Q (F0 m 0 ls []) := by
  obtain ⟨hx, hb, hml, hown, hts⟩ := id X
  unfold f_place_0 at hf
  refine lv_iconst (v := (0 : Int32)) hx hb dX12_place_0 (by decide) ?_
  refine lv_istore_n (lv' := [(3, .int (0 : Int32)), (0, .ref (h 0)), (1, .int x1), (2, .int x2)]) hx hb dX12_place_1 rfl hl (by decide) rfl (fun ls hl => ?_)
  refine lv_iload_n hx hb dX12_place_2 rfl (lv_at hl 3 rfl) ?_
  refine lv_istore (lv' := [(4, .int x2), (3, .int (0 : Int32)), (0, .ref (h 0)), (1, .int x1), (2, .int x2)]) hx hb dX12_place_3 hl (by decide) rfl (fun ls hl => ?_)
  exact w_place_5 X hret _ _ _ _ _ _ _ _ _ hf hM (lv_sub hl [2, 3, 1, 0] rfl)
noncomputable def f_place (x1 : Int32) (x2 : Int32) (I : Nat → Int32) (A : Nat → Nat → Int32) : Option (Int32 × MS) := f_place_0 x1 x2 I A
theorem c_place {l : Launch} {D : va_G} {cy ci : ClassId} {h : Nat → Nat} {x1 : Int32} {x2 : Int32} {I : Nat → Int32} {A : Nat → Nat → Int32} {o : Int32 × MS} (hf : f_place x1 x2 I A = some o) : mMv l yX12_place wsX12_place ({ frames := 6, cells := 0, slots := 0, locals := 157 } : Room) [.ref (h 0), .int x1, .int x2] D cy ci h I A o :=
  m_entryV (cc := cX12_place) (maxL := 5) (by decide) rfl rfl (Nat.le_of_ble_eq_true rfl) (fun p e s m args below meth c A0 Q H locs ls X hret hM hl => w_place_0 X hret hf hM (lv_sub hl [0, 1, 2] rfl))
theorem hw_thrown : ∀ w ∈ wsX120, w ∈ wsX12_thrown := by decide +kernel
theorem fl_thrown_0 : Cond.fieldLink RX12 99 "MoveTextsModel" "thrown" "I" ∈ wsX12_thrown := by decide +kernel
theorem hd_thrown : yX12_thrown.cls = RX12 ∧ yX12_thrown.cls ≠ "java/lang/invoke/MethodHandle" ∧ yX12_thrown.cls ≠ "java/lang/invoke/VarHandle" ∧ (parseMethodDescriptor yX12_thrown.desc).map (fun d => d.parameters.length) = some 0 := by decide +kernel
noncomputable def f_thrown_0 (I : Nat → Int32) (A : Nat → Nat → Int32) : Option (Int32 × MS) :=
  some ((I 0), (I, A))

set_option maxRecDepth 100000 in
set_option maxHeartbeats 4000000 in
theorem w_thrown_0 {p : Program} {l : Launch} {e : Env} {s : State} {m : MethodId} {args : Array Value} {below : List Frame} {meth : Method} {c : Code} {Q : State → Prop} {D : va_G} {cy ci : ClassId} {h : Nat → Nat} {A0 : Nat → Prop} {o : Int32 × MS} (X : CallFix p m c cX12_thrown 1 s args wsX12_thrown RX12) (hret : mRi p l e ({ frames := 0, cells := 0, slots := 0, locals := 0 } : Room) s m args below meth c Q cX12_thrown D cy ci h A0 .int o) {I : Nat → Int32} {A : Nat → Nat → Int32} {H : Heap} {locs : List Loc} {ls : Array Slot} (hf : f_thrown_0  I A = some o) (hM : mH D cy ci h A0 s H locs I A) (hl : lv_has ls 1 [(0, .ref (h 0))]) : W p l e ({ frames := 0, cells := 0, slots := 0, locals := 0 } : Room) s m args below meth c H locs 0 0 Q (F0 m 0 ls []) := by
  obtain ⟨hx, hb, hml, hown, hts⟩ := id X
  unfold f_thrown_0 at hf
  refine lv_aload_n hx hb dX12_thrown_0 rfl (lv_at hl 0 rfl) ?_
  refine m_get (v := .int (I 0)) X hw_thrown hM 0 (by decide) fl_thrown_0 rfl dX12_thrown_1 ?_
  cases hf
  exact hret H locs _ ls hM rfl dX12_thrown_4
noncomputable def f_thrown (I : Nat → Int32) (A : Nat → Nat → Int32) : Option (Int32 × MS) := f_thrown_0  I A
theorem c_thrown {l : Launch} {D : va_G} {cy ci : ClassId} {h : Nat → Nat} {I : Nat → Int32} {A : Nat → Nat → Int32} {o : Int32 × MS} (hf : f_thrown  I A = some o) : mMi l yX12_thrown wsX12_thrown ({ frames := 0, cells := 0, slots := 0, locals := 0 } : Room) [.ref (h 0)] D cy ci h I A o :=
  m_entryI (cc := cX12_thrown) (maxL := 1) (by decide) rfl rfl (Nat.le_of_ble_eq_true rfl) (fun p e s m args below meth c A0 Q H locs ls X hret hM hl => w_thrown_0 X hret hf hM (lv_sub hl [0] rfl))
theorem hw_childWith : ∀ w ∈ wsX120, w ∈ wsX12_childWith := by decide +kernel
theorem fl_childWith_9 : Cond.fieldLink RX12 24 "MoveTextsModel" "moveOf" "[I" ∈ wsX12_childWith := by decide +kernel
theorem fl_childWith_10 : Cond.fieldLink RX12 27 "MoveTextsModel" "child" "[I" ∈ wsX12_childWith := by decide +kernel
theorem fl_childWith_11 : Cond.fieldLink RX12 30 "MoveTextsModel" "next" "[I" ∈ wsX12_childWith := by decide +kernel
theorem hd_childWith : yX12_childWith.cls = RX12 ∧ yX12_childWith.cls ≠ "java/lang/invoke/MethodHandle" ∧ yX12_childWith.cls ≠ "java/lang/invoke/VarHandle" ∧ (parseMethodDescriptor yX12_childWith.desc).map (fun d => d.parameters.length) = some 3 := by decide +kernel
noncomputable def f_childWith_54 (x4 : Int32) (I : Nat → Int32) (A : Nat → Nat → Int32) : Option (Int32 × MS) :=
  some (x4, (I, A))

set_option maxRecDepth 100000 in
set_option maxHeartbeats 4000000 in
theorem w_childWith_54 {p : Program} {l : Launch} {e : Env} {s : State} {m : MethodId} {args : Array Value} {below : List Frame} {meth : Method} {c : Code} {Q : State → Prop} {D : va_G} {cy ci : ClassId} {h : Nat → Nat} {A0 : Nat → Prop} {o : Int32 × MS} (X : CallFix p m c cX12_childWith 5 s args wsX12_childWith RX12) (hret : mRi p l e ({ frames := 0, cells := 0, slots := 0, locals := 0 } : Room) s m args below meth c Q cX12_childWith D cy ci h A0 .int o) {x4 : Int32} {I : Nat → Int32} {A : Nat → Nat → Int32} {H : Heap} {locs : List Loc} {ls : Array Slot} (hf : f_childWith_54 x4 I A = some o) (hM : mH D cy ci h A0 s H locs I A) (hl : lv_has ls 5 [(4, .int x4)]) : W p l e ({ frames := 0, cells := 0, slots := 0, locals := 0 } : Room) s m args below meth c H locs 0 0 Q (F0 m 54 ls []) := by
  obtain ⟨hx, hb, hml, hown, hts⟩ := id X
  unfold f_childWith_54 at hf
  refine lv_iload hx hb dX12_childWith_54 (lv_at hl 0 rfl) ?_
  cases hf
  exact hret H locs _ ls hM rfl dX12_childWith_56
noncomputable def f_childWith_14s (self14 : Int32 → Int32 → Int32 → (Nat → Int32) → (Nat → Nat → Int32) → Option (Int32 × MS)) (x1 : Int32) (x3 : Int32) (x4 : Int32) (I : Nat → Int32) (A : Nat → Nat → Int32) : Option (Int32 × MS) :=
  m_if (x4 < 0) (
  f_childWith_54 x4 I A
  ) (
  m_bnd ((301 : Int32) * x1) (fun v1 =>
  m_bnd (v1 + x4) (fun v2 =>
  m_chk (¬ (v2 < 0 ∨ 602 ≤ (v2).toNatClampNeg)) (
  m_bnd (A 9 (v2).toNatClampNeg) (fun v3 =>
  m_if (v3 = x3) (
  f_childWith_54 x4 I A
  ) (
  m_bnd ((301 : Int32) * x1) (fun v4 =>
  m_bnd (v4 + x4) (fun v5 =>
  m_chk (¬ (v5 < 0 ∨ 602 ≤ (v5).toNatClampNeg)) (
  m_bnd (A 11 (v5).toNatClampNeg) (fun v6 =>
  self14 x1 x3 v6 I A))))
  )))))
  )

set_option maxRecDepth 100000 in
set_option maxHeartbeats 4000000 in
theorem ws_childWith_14 {p : Program} {l : Launch} {e : Env} {s : State} {m : MethodId} {args : Array Value} {below : List Frame} {meth : Method} {c : Code} {Q : State → Prop} {D : va_G} {cy ci : ClassId} {h : Nat → Nat} {A0 : Nat → Prop} {o : Int32 × MS} (X : CallFix p m c cX12_childWith 5 s args wsX12_childWith RX12) (hret : mRi p l e ({ frames := 0, cells := 0, slots := 0, locals := 0 } : Room) s m args below meth c Q cX12_childWith D cy ci h A0 .int o) {self14 : Int32 → Int32 → Int32 → (Nat → Int32) → (Nat → Nat → Int32) → Option (Int32 × MS)} (hself14 : ∀ (x1 : Int32) (x3 : Int32) (x4 : Int32) (I : Nat → Int32) (A : Nat → Nat → Int32) (H : Heap) (locs : List Loc) (ls : Array Slot), self14 x1 x3 x4 I A = some o → mH D cy ci h A0 s H locs I A → lv_has ls 5 [(0, .ref (h 0)), (1, .int x1), (3, .int x3), (4, .int x4)] → W p l e ({ frames := 0, cells := 0, slots := 0, locals := 0 } : Room) s m args below meth c H locs 0 0 Q (F0 m 14 ls [])) {x1 : Int32} {x3 : Int32} {x4 : Int32} {I : Nat → Int32} {A : Nat → Nat → Int32} {H : Heap} {locs : List Loc} {ls : Array Slot} (hf : f_childWith_14s self14 x1 x3 x4 I A = some o) (hM : mH D cy ci h A0 s H locs I A) (hl : lv_has ls 5 [(0, .ref (h 0)), (1, .int x1), (3, .int x3), (4, .int x4)]) : W p l e ({ frames := 0, cells := 0, slots := 0, locals := 0 } : Room) s m args below meth c H locs 0 0 Q (F0 m 14 ls []) := by
  obtain ⟨hx, hb, hml, hown, hts⟩ := id X
  unfold f_childWith_14s at hf
  refine lv_iload hx hb dX12_childWith_14 (lv_at hl 3 rfl) ?_
  refine lv_if_lt (tgt := 54) hx hb dX12_childWith_16 (by decide) (fun cc1 => ?_) (fun cc1 => ?_)
  · replace hf := m_ifT hf cc1
    exact w_childWith_54 X hret hf hM (lv_sub hl [3] rfl)
  · replace hf := m_ifF hf cc1
    refine lv_aload_n hx hb dX12_childWith_19 rfl (lv_at hl 0 rfl) ?_
    refine m_get (v := .ref (h 9)) X hw_childWith hM 9 (by decide) fl_childWith_9 rfl dX12_childWith_20 ?_
    refine lv_sipush (v := (301 : Int32)) hx hb dX12_childWith_23 (by decide) ?_
    refine lv_iload_n hx hb dX12_childWith_26 rfl (lv_at hl 1 rfl) ?_
    refine lv_imul hx hb dX12_childWith_27 ?_
    obtain ⟨v1, ev, hf⟩ := m_bndE hf
    refine m_top ev ?_
    clear ev
    refine lv_iload hx hb dX12_childWith_28 (lv_at hl 3 rfl) ?_
    refine lv_iadd hx hb dX12_childWith_30 ?_
    obtain ⟨v2, ev, hf⟩ := m_bndE hf
    refine m_top ev ?_
    clear ev
    obtain ⟨cd, hf⟩ := m_chkE hf
    refine m_iald X hM 9 5 602 rfl cd dX12_childWith_31 ?_
    clear cd
    obtain ⟨v3, ev, hf⟩ := m_bndE hf
    refine m_top ev ?_
    clear ev
    refine lv_iload_n hx hb dX12_childWith_32 rfl (lv_at hl 2 rfl) ?_
    refine lv_icmp_eq (tgt := 54) hx hb dX12_childWith_33 (by decide) (fun cc1 => ?_) (fun cc1 => ?_)
    · replace hf := m_ifT hf cc1
      exact w_childWith_54 X hret hf hM (lv_sub hl [3] rfl)
    · replace hf := m_ifF hf cc1
      refine lv_aload_n hx hb dX12_childWith_36 rfl (lv_at hl 0 rfl) ?_
      refine m_get (v := .ref (h 11)) X hw_childWith hM 11 (by decide) fl_childWith_11 rfl dX12_childWith_37 ?_
      refine lv_sipush (v := (301 : Int32)) hx hb dX12_childWith_40 (by decide) ?_
      refine lv_iload_n hx hb dX12_childWith_43 rfl (lv_at hl 1 rfl) ?_
      refine lv_imul hx hb dX12_childWith_44 ?_
      obtain ⟨v4, ev, hf⟩ := m_bndE hf
      refine m_top ev ?_
      clear ev
      refine lv_iload hx hb dX12_childWith_45 (lv_at hl 3 rfl) ?_
      refine lv_iadd hx hb dX12_childWith_47 ?_
      obtain ⟨v5, ev, hf⟩ := m_bndE hf
      refine m_top ev ?_
      clear ev
      obtain ⟨cd, hf⟩ := m_chkE hf
      refine m_iald X hM 11 7 602 rfl cd dX12_childWith_48 ?_
      clear cd
      obtain ⟨v6, ev, hf⟩ := m_bndE hf
      refine m_top ev ?_
      clear ev
      refine lv_istore (lv' := [(4, .int v6), (0, .ref (h 0)), (1, .int x1), (3, .int x3)]) hx hb dX12_childWith_49 hl (by decide) rfl (fun ls hl => ?_)
      refine lv_goto (tgt := 14) hx hb dX12_childWith_51 (by decide) ?_
      exact hself14 _ _ _ _ _ _ _ _ hf hM (lv_sub hl [1, 2, 3, 0] rfl)
noncomputable def f_childWith_14 : Nat → Int32 → Int32 → Int32 → (Nat → Int32) → (Nat → Nat → Int32) → Option (Int32 × MS)
  | 0 => fun _ _ _ _ _ => none
  | n + 1 => f_childWith_14s (f_childWith_14 n)
theorem w_childWith_14 {p : Program} {l : Launch} {e : Env} {s : State} {m : MethodId} {args : Array Value} {below : List Frame} {meth : Method} {c : Code} {Q : State → Prop} {D : va_G} {cy ci : ClassId} {h : Nat → Nat} {A0 : Nat → Prop} {o : Int32 × MS} (X : CallFix p m c cX12_childWith 5 s args wsX12_childWith RX12) (hret : mRi p l e ({ frames := 0, cells := 0, slots := 0, locals := 0 } : Room) s m args below meth c Q cX12_childWith D cy ci h A0 .int o) (n : Nat) : ∀ (x1 : Int32) (x3 : Int32) (x4 : Int32) (I : Nat → Int32) (A : Nat → Nat → Int32) (H : Heap) (locs : List Loc) (ls : Array Slot), f_childWith_14 n x1 x3 x4 I A = some o → mH D cy ci h A0 s H locs I A → lv_has ls 5 [(0, .ref (h 0)), (1, .int x1), (3, .int x3), (4, .int x4)] → W p l e ({ frames := 0, cells := 0, slots := 0, locals := 0 } : Room) s m args below meth c H locs 0 0 Q (F0 m 14 ls []) := by
  induction n with
  | zero => intro x1 x3 x4 I A H locs ls hf; cases hf
  | succ n ih => intro x1 x3 x4 I A H locs ls hf hM hl; exact ws_childWith_14 X hret (self14 := f_childWith_14 n) ih hf hM hl
noncomputable def f_childWith_0 (x1 : Int32) (x2 : Int32) (x3 : Int32) (I : Nat → Int32) (A : Nat → Nat → Int32) : Option (Int32 × MS) :=
  m_bnd ((301 : Int32) * x1) (fun v1 =>
  m_bnd (v1 + x2) (fun v2 =>
  m_chk (¬ (v2 < 0 ∨ 602 ≤ (v2).toNatClampNeg)) (
  m_bnd (A 10 (v2).toNatClampNeg) (fun v3 =>
  f_childWith_14 mFuel x1 x3 v3 I A))))

set_option maxRecDepth 100000 in
set_option maxHeartbeats 4000000 in
theorem w_childWith_0 {p : Program} {l : Launch} {e : Env} {s : State} {m : MethodId} {args : Array Value} {below : List Frame} {meth : Method} {c : Code} {Q : State → Prop} {D : va_G} {cy ci : ClassId} {h : Nat → Nat} {A0 : Nat → Prop} {o : Int32 × MS} (X : CallFix p m c cX12_childWith 5 s args wsX12_childWith RX12) (hret : mRi p l e ({ frames := 0, cells := 0, slots := 0, locals := 0 } : Room) s m args below meth c Q cX12_childWith D cy ci h A0 .int o) {x1 : Int32} {x2 : Int32} {x3 : Int32} {I : Nat → Int32} {A : Nat → Nat → Int32} {H : Heap} {locs : List Loc} {ls : Array Slot} (hf : f_childWith_0 x1 x2 x3 I A = some o) (hM : mH D cy ci h A0 s H locs I A) (hl : lv_has ls 5 [(0, .ref (h 0)), (1, .int x1), (2, .int x2), (3, .int x3)]) : W p l e ({ frames := 0, cells := 0, slots := 0, locals := 0 } : Room) s m args below meth c H locs 0 0 Q (F0 m 0 ls []) := by
  obtain ⟨hx, hb, hml, hown, hts⟩ := id X
  unfold f_childWith_0 at hf
  refine lv_aload_n hx hb dX12_childWith_0 rfl (lv_at hl 0 rfl) ?_
  refine m_get (v := .ref (h 10)) X hw_childWith hM 10 (by decide) fl_childWith_10 rfl dX12_childWith_1 ?_
  refine lv_sipush (v := (301 : Int32)) hx hb dX12_childWith_4 (by decide) ?_
  refine lv_iload_n hx hb dX12_childWith_7 rfl (lv_at hl 1 rfl) ?_
  refine lv_imul hx hb dX12_childWith_8 ?_
  obtain ⟨v1, ev, hf⟩ := m_bndE hf
  refine m_top ev ?_
  clear ev
  refine lv_iload_n hx hb dX12_childWith_9 rfl (lv_at hl 2 rfl) ?_
  refine lv_iadd hx hb dX12_childWith_10 ?_
  obtain ⟨v2, ev, hf⟩ := m_bndE hf
  refine m_top ev ?_
  clear ev
  obtain ⟨cd, hf⟩ := m_chkE hf
  refine m_iald X hM 10 6 602 rfl cd dX12_childWith_11 ?_
  clear cd
  obtain ⟨v3, ev, hf⟩ := m_bndE hf
  refine m_top ev ?_
  clear ev
  refine lv_istore (lv' := [(4, .int v3), (0, .ref (h 0)), (1, .int x1), (2, .int x2), (3, .int x3)]) hx hb dX12_childWith_12 hl (by decide) rfl (fun ls hl => ?_)
  exact w_childWith_14 X hret _ _ _ _ _ _ _ _ _ hf hM (lv_sub hl [1, 2, 4, 0] rfl)
noncomputable def f_childWith (x1 : Int32) (x2 : Int32) (x3 : Int32) (I : Nat → Int32) (A : Nat → Nat → Int32) : Option (Int32 × MS) := f_childWith_0 x1 x2 x3 I A
theorem c_childWith {l : Launch} {D : va_G} {cy ci : ClassId} {h : Nat → Nat} {x1 : Int32} {x2 : Int32} {x3 : Int32} {I : Nat → Int32} {A : Nat → Nat → Int32} {o : Int32 × MS} (hf : f_childWith x1 x2 x3 I A = some o) : mMi l yX12_childWith wsX12_childWith ({ frames := 0, cells := 0, slots := 0, locals := 0 } : Room) [.ref (h 0), .int x1, .int x2, .int x3] D cy ci h I A o :=
  m_entryI (cc := cX12_childWith) (maxL := 5) (by decide) rfl rfl (Nat.le_of_ble_eq_true rfl) (fun p e s m args below meth c A0 Q H locs ls X hret hM hl => w_childWith_0 X hret hf hM (lv_sub hl [0, 1, 2, 3] rfl))
theorem hw_append : ∀ w ∈ wsX120, w ∈ wsX12_append := by decide +kernel
theorem fl_append_7 : Cond.fieldLink RX12 17 "MoveTextsModel" "count" "[I" ∈ wsX12_append := by decide +kernel
theorem fl_append_8 : Cond.fieldLink RX12 21 "MoveTextsModel" "parent" "[I" ∈ wsX12_append := by decide +kernel
theorem fl_append_9 : Cond.fieldLink RX12 24 "MoveTextsModel" "moveOf" "[I" ∈ wsX12_append := by decide +kernel
theorem fl_append_10 : Cond.fieldLink RX12 27 "MoveTextsModel" "child" "[I" ∈ wsX12_append := by decide +kernel
theorem fl_append_11 : Cond.fieldLink RX12 30 "MoveTextsModel" "next" "[I" ∈ wsX12_append := by decide +kernel
theorem hd_append : yX12_append.cls = RX12 ∧ yX12_append.cls ≠ "java/lang/invoke/MethodHandle" ∧ yX12_append.cls ≠ "java/lang/invoke/VarHandle" ∧ (parseMethodDescriptor yX12_append.desc).map (fun d => d.parameters.length) = some 3 := by decide +kernel
noncomputable def f_append_143 (x4 : Int32) (I : Nat → Int32) (A : Nat → Nat → Int32) : Option (Int32 × MS) :=
  some (x4, (I, A))

set_option maxRecDepth 100000 in
set_option maxHeartbeats 4000000 in
theorem w_append_143 {p : Program} {l : Launch} {e : Env} {s : State} {m : MethodId} {args : Array Value} {below : List Frame} {meth : Method} {c : Code} {Q : State → Prop} {D : va_G} {cy ci : ClassId} {h : Nat → Nat} {A0 : Nat → Prop} {o : Int32 × MS} (X : CallFix p m c cX12_append 6 s args wsX12_append RX12) (hret : mRi p l e ({ frames := 1, cells := 0, slots := 0, locals := 21 } : Room) s m args below meth c Q cX12_append D cy ci h A0 .int o) {x4 : Int32} {I : Nat → Int32} {A : Nat → Nat → Int32} {H : Heap} {locs : List Loc} {ls : Array Slot} (hf : f_append_143 x4 I A = some o) (hM : mH D cy ci h A0 s H locs I A) (hl : lv_has ls 6 [(4, .int x4)]) : W p l e ({ frames := 1, cells := 0, slots := 0, locals := 21 } : Room) s m args below meth c H locs 0 0 Q (F0 m 143 ls []) := by
  obtain ⟨hx, hb, hml, hown, hts⟩ := id X
  unfold f_append_143 at hf
  refine lv_iload hx hb dX12_append_143 (lv_at hl 0 rfl) ?_
  cases hf
  exact hret H locs _ ls hM rfl dX12_append_145
noncomputable def f_append_94s (self94 : Int32 → Int32 → Int32 → (Nat → Int32) → (Nat → Nat → Int32) → Option (Int32 × MS)) (x1 : Int32) (x4 : Int32) (x5 : Int32) (I : Nat → Int32) (A : Nat → Nat → Int32) : Option (Int32 × MS) :=
  m_bnd ((301 : Int32) * x1) (fun v1 =>
  m_bnd (v1 + x5) (fun v2 =>
  m_chk (¬ (v2 < 0 ∨ 602 ≤ (v2).toNatClampNeg)) (
  m_bnd (A 11 (v2).toNatClampNeg) (fun v3 =>
  m_if (v3 < 0) (
  m_bnd ((301 : Int32) * x1) (fun v4 =>
  m_bnd (v4 + x5) (fun v5 =>
  m_chk (¬ (v5 < 0 ∨ 602 ≤ (v5).toNatClampNeg)) (
  m_bnd (va_up A 11 (upd (A 11) (v5).toNatClampNeg x4)) (fun A6 =>
  f_append_143 x4 I A6))))
  ) (
  m_bnd ((301 : Int32) * x1) (fun v7 =>
  m_bnd (v7 + x5) (fun v8 =>
  m_chk (¬ (v8 < 0 ∨ 602 ≤ (v8).toNatClampNeg)) (
  m_bnd (A 11 (v8).toNatClampNeg) (fun v9 =>
  self94 x1 x4 v9 I A))))
  )))))

set_option maxRecDepth 100000 in
set_option maxHeartbeats 4000000 in
theorem ws_append_94 {p : Program} {l : Launch} {e : Env} {s : State} {m : MethodId} {args : Array Value} {below : List Frame} {meth : Method} {c : Code} {Q : State → Prop} {D : va_G} {cy ci : ClassId} {h : Nat → Nat} {A0 : Nat → Prop} {o : Int32 × MS} (X : CallFix p m c cX12_append 6 s args wsX12_append RX12) (hret : mRi p l e ({ frames := 1, cells := 0, slots := 0, locals := 21 } : Room) s m args below meth c Q cX12_append D cy ci h A0 .int o) {self94 : Int32 → Int32 → Int32 → (Nat → Int32) → (Nat → Nat → Int32) → Option (Int32 × MS)} (hself94 : ∀ (x1 : Int32) (x4 : Int32) (x5 : Int32) (I : Nat → Int32) (A : Nat → Nat → Int32) (H : Heap) (locs : List Loc) (ls : Array Slot), self94 x1 x4 x5 I A = some o → mH D cy ci h A0 s H locs I A → lv_has ls 6 [(0, .ref (h 0)), (1, .int x1), (4, .int x4), (5, .int x5)] → W p l e ({ frames := 1, cells := 0, slots := 0, locals := 21 } : Room) s m args below meth c H locs 0 0 Q (F0 m 94 ls [])) {x1 : Int32} {x4 : Int32} {x5 : Int32} {I : Nat → Int32} {A : Nat → Nat → Int32} {H : Heap} {locs : List Loc} {ls : Array Slot} (hf : f_append_94s self94 x1 x4 x5 I A = some o) (hM : mH D cy ci h A0 s H locs I A) (hl : lv_has ls 6 [(0, .ref (h 0)), (1, .int x1), (4, .int x4), (5, .int x5)]) : W p l e ({ frames := 1, cells := 0, slots := 0, locals := 21 } : Room) s m args below meth c H locs 0 0 Q (F0 m 94 ls []) := by
  obtain ⟨hx, hb, hml, hown, hts⟩ := id X
  unfold f_append_94s at hf
  refine lv_aload_n hx hb dX12_append_94 rfl (lv_at hl 0 rfl) ?_
  refine m_get (v := .ref (h 11)) X hw_append hM 11 (by decide) fl_append_11 rfl dX12_append_95 ?_
  refine lv_sipush (v := (301 : Int32)) hx hb dX12_append_98 (by decide) ?_
  refine lv_iload_n hx hb dX12_append_101 rfl (lv_at hl 1 rfl) ?_
  refine lv_imul hx hb dX12_append_102 ?_
  obtain ⟨v1, ev, hf⟩ := m_bndE hf
  refine m_top ev ?_
  clear ev
  refine lv_iload hx hb dX12_append_103 (lv_at hl 3 rfl) ?_
  refine lv_iadd hx hb dX12_append_105 ?_
  obtain ⟨v2, ev, hf⟩ := m_bndE hf
  refine m_top ev ?_
  clear ev
  obtain ⟨cd, hf⟩ := m_chkE hf
  refine m_iald X hM 11 7 602 rfl cd dX12_append_106 ?_
  clear cd
  obtain ⟨v3, ev, hf⟩ := m_bndE hf
  refine m_top ev ?_
  clear ev
  refine lv_if_lt (tgt := 128) hx hb dX12_append_107 (by decide) (fun cc1 => ?_) (fun cc1 => ?_)
  · replace hf := m_ifT hf cc1
    refine lv_aload_n hx hb dX12_append_128 rfl (lv_at hl 0 rfl) ?_
    refine m_get (v := .ref (h 11)) X hw_append hM 11 (by decide) fl_append_11 rfl dX12_append_129 ?_
    refine lv_sipush (v := (301 : Int32)) hx hb dX12_append_132 (by decide) ?_
    refine lv_iload_n hx hb dX12_append_135 rfl (lv_at hl 1 rfl) ?_
    refine lv_imul hx hb dX12_append_136 ?_
    obtain ⟨v4, ev, hf⟩ := m_bndE hf
    refine m_top ev ?_
    clear ev
    refine lv_iload hx hb dX12_append_137 (lv_at hl 3 rfl) ?_
    refine lv_iadd hx hb dX12_append_139 ?_
    obtain ⟨v5, ev, hf⟩ := m_bndE hf
    refine m_top ev ?_
    clear ev
    refine lv_iload hx hb dX12_append_140 (lv_at hl 2 rfl) ?_
    obtain ⟨cd, hf⟩ := m_chkE hf
    refine m_iast X hM 11 7 602 rfl ma_11 cd dX12_append_142 (fun H locs hM => ?_)
    clear cd
    obtain ⟨A6, ev, hf⟩ := m_bndE hf
    replace hM := m_hA hM ev
    clear ev
    exact w_append_143 X hret hf hM (lv_sub hl [2] rfl)
  · replace hf := m_ifF hf cc1
    refine lv_aload_n hx hb dX12_append_110 rfl (lv_at hl 0 rfl) ?_
    refine m_get (v := .ref (h 11)) X hw_append hM 11 (by decide) fl_append_11 rfl dX12_append_111 ?_
    refine lv_sipush (v := (301 : Int32)) hx hb dX12_append_114 (by decide) ?_
    refine lv_iload_n hx hb dX12_append_117 rfl (lv_at hl 1 rfl) ?_
    refine lv_imul hx hb dX12_append_118 ?_
    obtain ⟨v7, ev, hf⟩ := m_bndE hf
    refine m_top ev ?_
    clear ev
    refine lv_iload hx hb dX12_append_119 (lv_at hl 3 rfl) ?_
    refine lv_iadd hx hb dX12_append_121 ?_
    obtain ⟨v8, ev, hf⟩ := m_bndE hf
    refine m_top ev ?_
    clear ev
    obtain ⟨cd, hf⟩ := m_chkE hf
    refine m_iald X hM 11 7 602 rfl cd dX12_append_122 ?_
    clear cd
    obtain ⟨v9, ev, hf⟩ := m_bndE hf
    refine m_top ev ?_
    clear ev
    refine lv_istore (lv' := [(5, .int v9), (0, .ref (h 0)), (1, .int x1), (4, .int x4)]) hx hb dX12_append_123 hl (by decide) rfl (fun ls hl => ?_)
    refine lv_goto (tgt := 94) hx hb dX12_append_125 (by decide) ?_
    exact hself94 _ _ _ _ _ _ _ _ hf hM (lv_sub hl [1, 2, 3, 0] rfl)
noncomputable def f_append_94 : Nat → Int32 → Int32 → Int32 → (Nat → Int32) → (Nat → Nat → Int32) → Option (Int32 × MS)
  | 0 => fun _ _ _ _ _ => none
  | n + 1 => f_append_94s (f_append_94 n)
theorem w_append_94 {p : Program} {l : Launch} {e : Env} {s : State} {m : MethodId} {args : Array Value} {below : List Frame} {meth : Method} {c : Code} {Q : State → Prop} {D : va_G} {cy ci : ClassId} {h : Nat → Nat} {A0 : Nat → Prop} {o : Int32 × MS} (X : CallFix p m c cX12_append 6 s args wsX12_append RX12) (hret : mRi p l e ({ frames := 1, cells := 0, slots := 0, locals := 21 } : Room) s m args below meth c Q cX12_append D cy ci h A0 .int o) (n : Nat) : ∀ (x1 : Int32) (x4 : Int32) (x5 : Int32) (I : Nat → Int32) (A : Nat → Nat → Int32) (H : Heap) (locs : List Loc) (ls : Array Slot), f_append_94 n x1 x4 x5 I A = some o → mH D cy ci h A0 s H locs I A → lv_has ls 6 [(0, .ref (h 0)), (1, .int x1), (4, .int x4), (5, .int x5)] → W p l e ({ frames := 1, cells := 0, slots := 0, locals := 21 } : Room) s m args below meth c H locs 0 0 Q (F0 m 94 ls []) := by
  induction n with
  | zero => intro x1 x4 x5 I A H locs ls hf; cases hf
  | succ n ih => intro x1 x4 x5 I A H locs ls hf hM hl; exact ws_append_94 X hret (self94 := f_append_94 n) ih hf hM hl
noncomputable def f_append_0 (x1 : Int32) (x2 : Int32) (x3 : Int32) (I : Nat → Int32) (A : Nat → Nat → Int32) : Option (Int32 × MS) :=
  m_chk (¬ (x1 < 0 ∨ 2 ≤ (x1).toNatClampNeg)) (
  m_bnd (A 7 (x1).toNatClampNeg) (fun v1 =>
  m_bnd (v1 + (1 : Int32)) (fun v2 =>
  m_chk (¬ (x1 < 0 ∨ 2 ≤ (x1).toNatClampNeg)) (
  m_bnd (va_up A 7 (upd (A 7) (x1).toNatClampNeg v2)) (fun A3 =>
  m_chk (¬ (x1 < 0 ∨ 2 ≤ (x1).toNatClampNeg)) (
  m_bnd (A3 7 (x1).toNatClampNeg) (fun v4 =>
  m_bnd ((301 : Int32) * x1) (fun v5 =>
  m_bnd (v5 + v4) (fun v6 =>
  m_cl (f_clearNode v6 I A3) (fun r7 Ic7 Ac7 =>
  m_bnd ((301 : Int32) * x1) (fun v8 =>
  m_bnd (v8 + v4) (fun v9 =>
  m_chk (¬ (v9 < 0 ∨ 602 ≤ (v9).toNatClampNeg)) (
  m_bnd (va_up Ac7 8 (upd (Ac7 8) (v9).toNatClampNeg x2)) (fun A10 =>
  m_bnd ((301 : Int32) * x1) (fun v11 =>
  m_bnd (v11 + v4) (fun v12 =>
  m_chk (¬ (v12 < 0 ∨ 602 ≤ (v12).toNatClampNeg)) (
  m_bnd (va_up A10 9 (upd (A10 9) (v12).toNatClampNeg x3)) (fun A13 =>
  m_bnd ((301 : Int32) * x1) (fun v14 =>
  m_bnd (v14 + x2) (fun v15 =>
  m_chk (¬ (v15 < 0 ∨ 602 ≤ (v15).toNatClampNeg)) (
  m_bnd (A13 10 (v15).toNatClampNeg) (fun v16 =>
  m_if (0 ≤ v16) (
  f_append_94 mFuel x1 v4 v16 Ic7 A13
  ) (
  m_bnd ((301 : Int32) * x1) (fun v17 =>
  m_bnd (v17 + x2) (fun v18 =>
  m_chk (¬ (v18 < 0 ∨ 602 ≤ (v18).toNatClampNeg)) (
  m_bnd (va_up A13 10 (upd (A13 10) (v18).toNatClampNeg v4)) (fun A19 =>
  f_append_143 v4 Ic7 A19))))
  )))))))))))))))))))))))

set_option maxRecDepth 100000 in
set_option maxHeartbeats 4000000 in
theorem w_append_0 {p : Program} {l : Launch} {e : Env} {s : State} {m : MethodId} {args : Array Value} {below : List Frame} {meth : Method} {c : Code} {Q : State → Prop} {D : va_G} {cy ci : ClassId} {h : Nat → Nat} {A0 : Nat → Prop} {o : Int32 × MS} (X : CallFix p m c cX12_append 6 s args wsX12_append RX12) (hret : mRi p l e ({ frames := 1, cells := 0, slots := 0, locals := 21 } : Room) s m args below meth c Q cX12_append D cy ci h A0 .int o) {x1 : Int32} {x2 : Int32} {x3 : Int32} {I : Nat → Int32} {A : Nat → Nat → Int32} {H : Heap} {locs : List Loc} {ls : Array Slot} (hf : f_append_0 x1 x2 x3 I A = some o) (hM : mH D cy ci h A0 s H locs I A) (hl : lv_has ls 6 [(0, .ref (h 0)), (1, .int x1), (2, .int x2), (3, .int x3)]) : W p l e ({ frames := 1, cells := 0, slots := 0, locals := 21 } : Room) s m args below meth c H locs 0 0 Q (F0 m 0 ls []) := by
  obtain ⟨hx, hb, hml, hown, hts⟩ := id X
  unfold f_append_0 at hf
  refine lv_aload_n hx hb dX12_append_0 rfl (lv_at hl 0 rfl) ?_
  refine m_get (v := .ref (h 7)) X hw_append hM 7 (by decide) fl_append_7 rfl dX12_append_1 ?_
  refine lv_iload_n hx hb dX12_append_4 rfl (lv_at hl 1 rfl) ?_
  refine lv_dup2_11 hx hb dX12_append_5 rfl rfl ?_
  obtain ⟨cd, hf⟩ := m_chkE hf
  refine m_iald X hM 7 3 2 rfl cd dX12_append_6 ?_
  clear cd
  obtain ⟨v1, ev, hf⟩ := m_bndE hf
  refine m_top ev ?_
  clear ev
  refine lv_iconst (v := (1 : Int32)) hx hb dX12_append_7 (by decide) ?_
  refine lv_iadd hx hb dX12_append_8 ?_
  obtain ⟨v2, ev, hf⟩ := m_bndE hf
  refine m_top ev ?_
  clear ev
  obtain ⟨cd, hf⟩ := m_chkE hf
  refine m_iast X hM 7 3 2 rfl ma_7 cd dX12_append_9 (fun H locs hM => ?_)
  clear cd
  obtain ⟨A3, ev, hf⟩ := m_bndE hf
  replace hM := m_hA hM ev
  clear ev
  refine lv_aload_n hx hb dX12_append_10 rfl (lv_at hl 0 rfl) ?_
  refine m_get (v := .ref (h 7)) X hw_append hM 7 (by decide) fl_append_7 rfl dX12_append_11 ?_
  refine lv_iload_n hx hb dX12_append_14 rfl (lv_at hl 1 rfl) ?_
  obtain ⟨cd, hf⟩ := m_chkE hf
  refine m_iald X hM 7 3 2 rfl cd dX12_append_15 ?_
  clear cd
  obtain ⟨v4, ev, hf⟩ := m_bndE hf
  refine m_top ev ?_
  clear ev
  refine lv_istore (lv' := [(4, .int v4), (0, .ref (h 0)), (1, .int x1), (2, .int x2), (3, .int x3)]) hx hb dX12_append_16 hl (by decide) rfl (fun ls hl => ?_)
  refine lv_aload_n hx hb dX12_append_18 rfl (lv_at hl 1 rfl) ?_
  refine lv_sipush (v := (301 : Int32)) hx hb dX12_append_19 (by decide) ?_
  refine lv_iload_n hx hb dX12_append_22 rfl (lv_at hl 2 rfl) ?_
  refine lv_imul hx hb dX12_append_23 ?_
  obtain ⟨v5, ev, hf⟩ := m_bndE hf
  refine m_top ev ?_
  clear ev
  refine lv_iload hx hb dX12_append_24 (lv_at hl 0 rfl) ?_
  refine lv_iadd hx hb dX12_append_26 ?_
  obtain ⟨v6, ev, hf⟩ := m_bndE hf
  refine m_top ev ?_
  clear ev
  obtain ⟨o7, ho, hf⟩ := m_clE hf
  refine m_callVv X hM (c_clearNode ho) gX12_append_X12_clearNode rfl ⟨rfl, rfl⟩ hd_clearNode ⟨Nat.le_of_ble_eq_true rfl, Nat.le_of_ble_eq_true rfl⟩ rfl hl.1 rfl (Nat.le_of_ble_eq_true rfl) dX12_append_27 (fun H locs hM => ?_)
  clear ho
  refine lv_aload_n hx hb dX12_append_30 rfl (lv_at hl 1 rfl) ?_
  refine m_get (v := .ref (h 8)) X hw_append hM 8 (by decide) fl_append_8 rfl dX12_append_31 ?_
  refine lv_sipush (v := (301 : Int32)) hx hb dX12_append_34 (by decide) ?_
  refine lv_iload_n hx hb dX12_append_37 rfl (lv_at hl 2 rfl) ?_
  refine lv_imul hx hb dX12_append_38 ?_
  obtain ⟨v8, ev, hf⟩ := m_bndE hf
  refine m_top ev ?_
  clear ev
  refine lv_iload hx hb dX12_append_39 (lv_at hl 0 rfl) ?_
  refine lv_iadd hx hb dX12_append_41 ?_
  obtain ⟨v9, ev, hf⟩ := m_bndE hf
  refine m_top ev ?_
  clear ev
  refine lv_iload_n hx hb dX12_append_42 rfl (lv_at hl 3 rfl) ?_
  obtain ⟨cd, hf⟩ := m_chkE hf
  refine m_iast X hM 8 4 602 rfl ma_8 cd dX12_append_43 (fun H locs hM => ?_)
  clear cd
  obtain ⟨A10, ev, hf⟩ := m_bndE hf
  replace hM := m_hA hM ev
  clear ev
  refine lv_aload_n hx hb dX12_append_44 rfl (lv_at hl 1 rfl) ?_
  refine m_get (v := .ref (h 9)) X hw_append hM 9 (by decide) fl_append_9 rfl dX12_append_45 ?_
  refine lv_sipush (v := (301 : Int32)) hx hb dX12_append_48 (by decide) ?_
  refine lv_iload_n hx hb dX12_append_51 rfl (lv_at hl 2 rfl) ?_
  refine lv_imul hx hb dX12_append_52 ?_
  obtain ⟨v11, ev, hf⟩ := m_bndE hf
  refine m_top ev ?_
  clear ev
  refine lv_iload hx hb dX12_append_53 (lv_at hl 0 rfl) ?_
  refine lv_iadd hx hb dX12_append_55 ?_
  obtain ⟨v12, ev, hf⟩ := m_bndE hf
  refine m_top ev ?_
  clear ev
  refine lv_iload_n hx hb dX12_append_56 rfl (lv_at hl 4 rfl) ?_
  obtain ⟨cd, hf⟩ := m_chkE hf
  refine m_iast X hM 9 5 602 rfl ma_9 cd dX12_append_57 (fun H locs hM => ?_)
  clear cd
  obtain ⟨A13, ev, hf⟩ := m_bndE hf
  replace hM := m_hA hM ev
  clear ev
  refine lv_aload_n hx hb dX12_append_58 rfl (lv_at hl 1 rfl) ?_
  refine m_get (v := .ref (h 10)) X hw_append hM 10 (by decide) fl_append_10 rfl dX12_append_59 ?_
  refine lv_sipush (v := (301 : Int32)) hx hb dX12_append_62 (by decide) ?_
  refine lv_iload_n hx hb dX12_append_65 rfl (lv_at hl 2 rfl) ?_
  refine lv_imul hx hb dX12_append_66 ?_
  obtain ⟨v14, ev, hf⟩ := m_bndE hf
  refine m_top ev ?_
  clear ev
  refine lv_iload_n hx hb dX12_append_67 rfl (lv_at hl 3 rfl) ?_
  refine lv_iadd hx hb dX12_append_68 ?_
  obtain ⟨v15, ev, hf⟩ := m_bndE hf
  refine m_top ev ?_
  clear ev
  obtain ⟨cd, hf⟩ := m_chkE hf
  refine m_iald X hM 10 6 602 rfl cd dX12_append_69 ?_
  clear cd
  obtain ⟨v16, ev, hf⟩ := m_bndE hf
  refine m_top ev ?_
  clear ev
  refine lv_istore (lv' := [(5, .int v16), (4, .int v4), (0, .ref (h 0)), (1, .int x1), (2, .int x2), (3, .int x3)]) hx hb dX12_append_70 hl (by decide) rfl (fun ls hl => ?_)
  refine lv_iload hx hb dX12_append_72 (lv_at hl 0 rfl) ?_
  refine lv_if_ge (tgt := 94) hx hb dX12_append_74 (by decide) (fun cc1 => ?_) (fun cc1 => ?_)
  · replace hf := m_ifT hf cc1
    exact w_append_94 X hret _ _ _ _ _ _ _ _ _ hf hM (lv_sub hl [2, 3, 1, 0] rfl)
  · replace hf := m_ifF hf cc1
    refine lv_aload_n hx hb dX12_append_77 rfl (lv_at hl 2 rfl) ?_
    refine m_get (v := .ref (h 10)) X hw_append hM 10 (by decide) fl_append_10 rfl dX12_append_78 ?_
    refine lv_sipush (v := (301 : Int32)) hx hb dX12_append_81 (by decide) ?_
    refine lv_iload_n hx hb dX12_append_84 rfl (lv_at hl 3 rfl) ?_
    refine lv_imul hx hb dX12_append_85 ?_
    obtain ⟨v17, ev, hf⟩ := m_bndE hf
    refine m_top ev ?_
    clear ev
    refine lv_iload_n hx hb dX12_append_86 rfl (lv_at hl 4 rfl) ?_
    refine lv_iadd hx hb dX12_append_87 ?_
    obtain ⟨v18, ev, hf⟩ := m_bndE hf
    refine m_top ev ?_
    clear ev
    refine lv_iload hx hb dX12_append_88 (lv_at hl 1 rfl) ?_
    obtain ⟨cd, hf⟩ := m_chkE hf
    refine m_iast X hM 10 6 602 rfl ma_10 cd dX12_append_90 (fun H locs hM => ?_)
    clear cd
    obtain ⟨A19, ev, hf⟩ := m_bndE hf
    replace hM := m_hA hM ev
    clear ev
    refine lv_goto (tgt := 143) hx hb dX12_append_91 (by decide) ?_
    exact w_append_143 X hret hf hM (lv_sub hl [1] rfl)
noncomputable def f_append (x1 : Int32) (x2 : Int32) (x3 : Int32) (I : Nat → Int32) (A : Nat → Nat → Int32) : Option (Int32 × MS) := f_append_0 x1 x2 x3 I A
theorem c_append {l : Launch} {D : va_G} {cy ci : ClassId} {h : Nat → Nat} {x1 : Int32} {x2 : Int32} {x3 : Int32} {I : Nat → Int32} {A : Nat → Nat → Int32} {o : Int32 × MS} (hf : f_append x1 x2 x3 I A = some o) : mMi l yX12_append wsX12_append ({ frames := 1, cells := 0, slots := 0, locals := 21 } : Room) [.ref (h 0), .int x1, .int x2, .int x3] D cy ci h I A o :=
  m_entryI (cc := cX12_append) (maxL := 6) (by decide) rfl rfl (Nat.le_of_ble_eq_true rfl) (fun p e s m args below meth c A0 Q H locs ls X hret hM hl => w_append_0 X hret hf hM (lv_sub hl [0, 1, 2, 3] rfl))
theorem hw_isFirst : ∀ w ∈ wsX120, w ∈ wsX12_isFirst := by decide +kernel
theorem fl_isFirst_8 : Cond.fieldLink RX12 21 "MoveTextsModel" "parent" "[I" ∈ wsX12_isFirst := by decide +kernel
theorem fl_isFirst_10 : Cond.fieldLink RX12 27 "MoveTextsModel" "child" "[I" ∈ wsX12_isFirst := by decide +kernel
theorem hd_isFirst : yX12_isFirst.cls = RX12 ∧ yX12_isFirst.cls ≠ "java/lang/invoke/MethodHandle" ∧ yX12_isFirst.cls ≠ "java/lang/invoke/VarHandle" ∧ (parseMethodDescriptor yX12_isFirst.desc).map (fun d => d.parameters.length) = some 2 := by decide +kernel
noncomputable def f_isFirst_32 (t0 : Int32) (I : Nat → Int32) (A : Nat → Nat → Int32) : Option (Int32 × MS) :=
  m_chk (vp_nar .boolean t0 = t0) (some (t0, (I, A)))

set_option maxRecDepth 100000 in
set_option maxHeartbeats 4000000 in
theorem w_isFirst_32 {p : Program} {l : Launch} {e : Env} {s : State} {m : MethodId} {args : Array Value} {below : List Frame} {meth : Method} {c : Code} {Q : State → Prop} {D : va_G} {cy ci : ClassId} {h : Nat → Nat} {A0 : Nat → Prop} {o : Int32 × MS} (X : CallFix p m c cX12_isFirst 3 s args wsX12_isFirst RX12) (hret : mRi p l e ({ frames := 0, cells := 0, slots := 0, locals := 0 } : Room) s m args below meth c Q cX12_isFirst D cy ci h A0 .boolean o) {t0 : Int32} {I : Nat → Int32} {A : Nat → Nat → Int32} {H : Heap} {locs : List Loc} {ls : Array Slot} (hf : f_isFirst_32 t0 I A = some o) (hM : mH D cy ci h A0 s H locs I A) (hl : lv_has ls 3 []) : W p l e ({ frames := 0, cells := 0, slots := 0, locals := 0 } : Room) s m args below meth c H locs 0 0 Q (F0 m 32 ls [.int t0]) := by
  obtain ⟨hx, hb, hml, hown, hts⟩ := id X
  unfold f_isFirst_32 at hf
  obtain ⟨cd, hf⟩ := m_chkE hf
  cases hf
  exact hret H locs _ ls hM (m_nb cd) dX12_isFirst_32
noncomputable def f_isFirst_0 (x1 : Int32) (x2 : Int32) (I : Nat → Int32) (A : Nat → Nat → Int32) : Option (Int32 × MS) :=
  m_bnd ((301 : Int32) * x1) (fun v1 =>
  m_bnd ((301 : Int32) * x1) (fun v2 =>
  m_bnd (v2 + x2) (fun v3 =>
  m_chk (¬ (v3 < 0 ∨ 602 ≤ (v3).toNatClampNeg)) (
  m_bnd (A 8 (v3).toNatClampNeg) (fun v4 =>
  m_bnd (v1 + v4) (fun v5 =>
  m_chk (¬ (v5 < 0 ∨ 602 ≤ (v5).toNatClampNeg)) (
  m_bnd (A 10 (v5).toNatClampNeg) (fun v6 =>
  m_if (v6 = x2) (
  f_isFirst_32 (1 : Int32) I A
  ) (
  f_isFirst_32 (0 : Int32) I A
  )))))))))

set_option maxRecDepth 100000 in
set_option maxHeartbeats 4000000 in
theorem w_isFirst_0 {p : Program} {l : Launch} {e : Env} {s : State} {m : MethodId} {args : Array Value} {below : List Frame} {meth : Method} {c : Code} {Q : State → Prop} {D : va_G} {cy ci : ClassId} {h : Nat → Nat} {A0 : Nat → Prop} {o : Int32 × MS} (X : CallFix p m c cX12_isFirst 3 s args wsX12_isFirst RX12) (hret : mRi p l e ({ frames := 0, cells := 0, slots := 0, locals := 0 } : Room) s m args below meth c Q cX12_isFirst D cy ci h A0 .boolean o) {x1 : Int32} {x2 : Int32} {I : Nat → Int32} {A : Nat → Nat → Int32} {H : Heap} {locs : List Loc} {ls : Array Slot} (hf : f_isFirst_0 x1 x2 I A = some o) (hM : mH D cy ci h A0 s H locs I A) (hl : lv_has ls 3 [(0, .ref (h 0)), (1, .int x1), (2, .int x2)]) : W p l e ({ frames := 0, cells := 0, slots := 0, locals := 0 } : Room) s m args below meth c H locs 0 0 Q (F0 m 0 ls []) := by
  obtain ⟨hx, hb, hml, hown, hts⟩ := id X
  unfold f_isFirst_0 at hf
  refine lv_aload_n hx hb dX12_isFirst_0 rfl (lv_at hl 0 rfl) ?_
  refine m_get (v := .ref (h 10)) X hw_isFirst hM 10 (by decide) fl_isFirst_10 rfl dX12_isFirst_1 ?_
  refine lv_sipush (v := (301 : Int32)) hx hb dX12_isFirst_4 (by decide) ?_
  refine lv_iload_n hx hb dX12_isFirst_7 rfl (lv_at hl 1 rfl) ?_
  refine lv_imul hx hb dX12_isFirst_8 ?_
  obtain ⟨v1, ev, hf⟩ := m_bndE hf
  refine m_top ev ?_
  clear ev
  refine lv_aload_n hx hb dX12_isFirst_9 rfl (lv_at hl 0 rfl) ?_
  refine m_get (v := .ref (h 8)) X hw_isFirst hM 8 (by decide) fl_isFirst_8 rfl dX12_isFirst_10 ?_
  refine lv_sipush (v := (301 : Int32)) hx hb dX12_isFirst_13 (by decide) ?_
  refine lv_iload_n hx hb dX12_isFirst_16 rfl (lv_at hl 1 rfl) ?_
  refine lv_imul hx hb dX12_isFirst_17 ?_
  obtain ⟨v2, ev, hf⟩ := m_bndE hf
  refine m_top ev ?_
  clear ev
  refine lv_iload_n hx hb dX12_isFirst_18 rfl (lv_at hl 2 rfl) ?_
  refine lv_iadd hx hb dX12_isFirst_19 ?_
  obtain ⟨v3, ev, hf⟩ := m_bndE hf
  refine m_top ev ?_
  clear ev
  obtain ⟨cd, hf⟩ := m_chkE hf
  refine m_iald X hM 8 4 602 rfl cd dX12_isFirst_20 ?_
  clear cd
  obtain ⟨v4, ev, hf⟩ := m_bndE hf
  refine m_top ev ?_
  clear ev
  refine lv_iadd hx hb dX12_isFirst_21 ?_
  obtain ⟨v5, ev, hf⟩ := m_bndE hf
  refine m_top ev ?_
  clear ev
  obtain ⟨cd, hf⟩ := m_chkE hf
  refine m_iald X hM 10 6 602 rfl cd dX12_isFirst_22 ?_
  clear cd
  obtain ⟨v6, ev, hf⟩ := m_bndE hf
  refine m_top ev ?_
  clear ev
  refine lv_iload_n hx hb dX12_isFirst_23 rfl (lv_at hl 2 rfl) ?_
  refine lv_icmp_ne (tgt := 31) hx hb dX12_isFirst_24 (by decide) (fun cc1 => ?_) (fun cc1 => ?_)
  · replace hf := m_ifF hf cc1
    refine lv_iconst (v := (0 : Int32)) hx hb dX12_isFirst_31 (by decide) ?_
    exact w_isFirst_32 X hret hf hM (lv_sub hl [] rfl)
  · replace hf := m_ifT hf cc1
    refine lv_iconst (v := (1 : Int32)) hx hb dX12_isFirst_27 (by decide) ?_
    refine lv_goto (tgt := 32) hx hb dX12_isFirst_28 (by decide) ?_
    exact w_isFirst_32 X hret hf hM (lv_sub hl [] rfl)
noncomputable def f_isFirst (x1 : Int32) (x2 : Int32) (I : Nat → Int32) (A : Nat → Nat → Int32) : Option (Int32 × MS) := f_isFirst_0 x1 x2 I A
theorem c_isFirst {l : Launch} {D : va_G} {cy ci : ClassId} {h : Nat → Nat} {x1 : Int32} {x2 : Int32} {I : Nat → Int32} {A : Nat → Nat → Int32} {o : Int32 × MS} (hf : f_isFirst x1 x2 I A = some o) : mMi l yX12_isFirst wsX12_isFirst ({ frames := 0, cells := 0, slots := 0, locals := 0 } : Room) [.ref (h 0), .int x1, .int x2] D cy ci h I A o :=
  m_entryI (cc := cX12_isFirst) (maxL := 3) (by decide) rfl rfl (Nat.le_of_ble_eq_true rfl) (fun p e s m args below meth c A0 Q H locs ls X hret hM hl => w_isFirst_0 X hret hf hM (lv_sub hl [0, 1, 2] rfl))
theorem hw_deepOf : ∀ w ∈ wsX120, w ∈ wsX12_deepOf := by decide +kernel
theorem fl_deepOf_8 : Cond.fieldLink RX12 21 "MoveTextsModel" "parent" "[I" ∈ wsX12_deepOf := by decide +kernel
theorem hd_deepOf : yX12_deepOf.cls = RX12 ∧ yX12_deepOf.cls ≠ "java/lang/invoke/MethodHandle" ∧ yX12_deepOf.cls ≠ "java/lang/invoke/VarHandle" ∧ (parseMethodDescriptor yX12_deepOf.desc).map (fun d => d.parameters.length) = some 2 := by decide +kernel
noncomputable def f_deepOf_27 (self5 : Int32 → Int32 → Int32 → (Nat → Int32) → (Nat → Nat → Int32) → Option (Int32 × MS)) (x1 : Int32) (x4 : Int32) (t0 : Int32) (I : Nat → Int32) (A : Nat → Nat → Int32) : Option (Int32 × MS) :=
  m_bnd ((301 : Int32) * x1) (fun v1 =>
  m_bnd (v1 + x4) (fun v2 =>
  m_chk (¬ (v2 < 0 ∨ 602 ≤ (v2).toNatClampNeg)) (
  m_bnd (A 8 (v2).toNatClampNeg) (fun v3 =>
  self5 x1 t0 v3 I A))))

set_option maxRecDepth 100000 in
set_option maxHeartbeats 4000000 in
theorem w_deepOf_27 {p : Program} {l : Launch} {e : Env} {s : State} {m : MethodId} {args : Array Value} {below : List Frame} {meth : Method} {c : Code} {Q : State → Prop} {D : va_G} {cy ci : ClassId} {h : Nat → Nat} {A0 : Nat → Prop} {o : Int32 × MS} (X : CallFix p m c cX12_deepOf 5 s args wsX12_deepOf RX12) (hret : mRi p l e ({ frames := 1, cells := 0, slots := 0, locals := 22 } : Room) s m args below meth c Q cX12_deepOf D cy ci h A0 .int o) {self5 : Int32 → Int32 → Int32 → (Nat → Int32) → (Nat → Nat → Int32) → Option (Int32 × MS)} (hself5 : ∀ (x1 : Int32) (x3 : Int32) (x4 : Int32) (I : Nat → Int32) (A : Nat → Nat → Int32) (H : Heap) (locs : List Loc) (ls : Array Slot), self5 x1 x3 x4 I A = some o → mH D cy ci h A0 s H locs I A → lv_has ls 5 [(0, .ref (h 0)), (1, .int x1), (3, .int x3), (4, .int x4)] → W p l e ({ frames := 1, cells := 0, slots := 0, locals := 22 } : Room) s m args below meth c H locs 0 0 Q (F0 m 5 ls [])) {x1 : Int32} {x4 : Int32} {t0 : Int32} {I : Nat → Int32} {A : Nat → Nat → Int32} {H : Heap} {locs : List Loc} {ls : Array Slot} (hf : f_deepOf_27 self5 x1 x4 t0 I A = some o) (hM : mH D cy ci h A0 s H locs I A) (hl : lv_has ls 5 [(0, .ref (h 0)), (1, .int x1), (4, .int x4)]) : W p l e ({ frames := 1, cells := 0, slots := 0, locals := 22 } : Room) s m args below meth c H locs 0 0 Q (F0 m 27 ls [.int t0]) := by
  obtain ⟨hx, hb, hml, hown, hts⟩ := id X
  unfold f_deepOf_27 at hf
  refine lv_istore_n (lv' := [(3, .int t0), (0, .ref (h 0)), (1, .int x1), (4, .int x4)]) hx hb dX12_deepOf_27 rfl hl (by decide) rfl (fun ls hl => ?_)
  refine lv_aload_n hx hb dX12_deepOf_28 rfl (lv_at hl 1 rfl) ?_
  refine m_get (v := .ref (h 8)) X hw_deepOf hM 8 (by decide) fl_deepOf_8 rfl dX12_deepOf_29 ?_
  refine lv_sipush (v := (301 : Int32)) hx hb dX12_deepOf_32 (by decide) ?_
  refine lv_iload_n hx hb dX12_deepOf_35 rfl (lv_at hl 2 rfl) ?_
  refine lv_imul hx hb dX12_deepOf_36 ?_
  obtain ⟨v1, ev, hf⟩ := m_bndE hf
  refine m_top ev ?_
  clear ev
  refine lv_iload hx hb dX12_deepOf_37 (lv_at hl 3 rfl) ?_
  refine lv_iadd hx hb dX12_deepOf_39 ?_
  obtain ⟨v2, ev, hf⟩ := m_bndE hf
  refine m_top ev ?_
  clear ev
  obtain ⟨cd, hf⟩ := m_chkE hf
  refine m_iald X hM 8 4 602 rfl cd dX12_deepOf_40 ?_
  clear cd
  obtain ⟨v3, ev, hf⟩ := m_bndE hf
  refine m_top ev ?_
  clear ev
  refine lv_istore (lv' := [(4, .int v3), (3, .int t0), (0, .ref (h 0)), (1, .int x1)]) hx hb dX12_deepOf_41 hl (by decide) rfl (fun ls hl => ?_)
  refine lv_goto (tgt := 5) hx hb dX12_deepOf_43 (by decide) ?_
  exact hself5 _ _ _ _ _ _ _ _ hf hM (lv_sub hl [2, 3, 1, 0] rfl)
noncomputable def f_deepOf_5s (self5 : Int32 → Int32 → Int32 → (Nat → Int32) → (Nat → Nat → Int32) → Option (Int32 × MS)) (x1 : Int32) (x3 : Int32) (x4 : Int32) (I : Nat → Int32) (A : Nat → Nat → Int32) : Option (Int32 × MS) :=
  m_if (x4 ≤ 0) (
  some (x3, (I, A))
  ) (
  m_cl (f_isFirst x1 x4 I A) (fun r1 Ic1 Ac1 =>
  m_if (r1 = 0) (
  m_bnd (x3 + (1 : Int32)) (fun v2 =>
  f_deepOf_27 self5 x1 x4 v2 Ic1 Ac1)
  ) (
  f_deepOf_27 self5 x1 x4 x3 Ic1 Ac1
  ))
  )

set_option maxRecDepth 100000 in
set_option maxHeartbeats 4000000 in
theorem ws_deepOf_5 {p : Program} {l : Launch} {e : Env} {s : State} {m : MethodId} {args : Array Value} {below : List Frame} {meth : Method} {c : Code} {Q : State → Prop} {D : va_G} {cy ci : ClassId} {h : Nat → Nat} {A0 : Nat → Prop} {o : Int32 × MS} (X : CallFix p m c cX12_deepOf 5 s args wsX12_deepOf RX12) (hret : mRi p l e ({ frames := 1, cells := 0, slots := 0, locals := 22 } : Room) s m args below meth c Q cX12_deepOf D cy ci h A0 .int o) {self5 : Int32 → Int32 → Int32 → (Nat → Int32) → (Nat → Nat → Int32) → Option (Int32 × MS)} (hself5 : ∀ (x1 : Int32) (x3 : Int32) (x4 : Int32) (I : Nat → Int32) (A : Nat → Nat → Int32) (H : Heap) (locs : List Loc) (ls : Array Slot), self5 x1 x3 x4 I A = some o → mH D cy ci h A0 s H locs I A → lv_has ls 5 [(0, .ref (h 0)), (1, .int x1), (3, .int x3), (4, .int x4)] → W p l e ({ frames := 1, cells := 0, slots := 0, locals := 22 } : Room) s m args below meth c H locs 0 0 Q (F0 m 5 ls [])) {x1 : Int32} {x3 : Int32} {x4 : Int32} {I : Nat → Int32} {A : Nat → Nat → Int32} {H : Heap} {locs : List Loc} {ls : Array Slot} (hf : f_deepOf_5s self5 x1 x3 x4 I A = some o) (hM : mH D cy ci h A0 s H locs I A) (hl : lv_has ls 5 [(0, .ref (h 0)), (1, .int x1), (3, .int x3), (4, .int x4)]) : W p l e ({ frames := 1, cells := 0, slots := 0, locals := 22 } : Room) s m args below meth c H locs 0 0 Q (F0 m 5 ls []) := by
  obtain ⟨hx, hb, hml, hown, hts⟩ := id X
  unfold f_deepOf_5s at hf
  refine lv_iload hx hb dX12_deepOf_5 (lv_at hl 3 rfl) ?_
  refine lv_if_le (tgt := 46) hx hb dX12_deepOf_7 (by decide) (fun cc1 => ?_) (fun cc1 => ?_)
  · replace hf := m_ifT hf cc1
    refine lv_iload_n hx hb dX12_deepOf_46 rfl (lv_at hl 2 rfl) ?_
    cases hf
    exact hret H locs _ ls hM rfl dX12_deepOf_47
  · replace hf := m_ifF hf cc1
    refine lv_aload_n hx hb dX12_deepOf_10 rfl (lv_at hl 0 rfl) ?_
    refine lv_iload_n hx hb dX12_deepOf_11 rfl (lv_at hl 1 rfl) ?_
    refine lv_iload hx hb dX12_deepOf_12 (lv_at hl 3 rfl) ?_
    obtain ⟨o1, ho, hf⟩ := m_clE hf
    refine m_callVi X hM (c_isFirst ho) gX12_deepOf_X12_isFirst rfl ⟨rfl, rfl⟩ hd_isFirst ⟨Nat.le_of_ble_eq_true rfl, Nat.le_of_ble_eq_true rfl⟩ rfl hl.1 rfl (Nat.le_of_ble_eq_true rfl) dX12_deepOf_14 (fun H locs hM => ?_)
    clear ho
    refine lv_if_eq (tgt := 24) hx hb dX12_deepOf_17 (by decide) (fun cc1 => ?_) (fun cc1 => ?_)
    · replace hf := m_ifT hf cc1
      refine lv_iload_n hx hb dX12_deepOf_24 rfl (lv_at hl 2 rfl) ?_
      refine lv_iconst (v := (1 : Int32)) hx hb dX12_deepOf_25 (by decide) ?_
      refine lv_iadd hx hb dX12_deepOf_26 ?_
      obtain ⟨v2, ev, hf⟩ := m_bndE hf
      refine m_top ev ?_
      clear ev
      exact w_deepOf_27 X hret hself5 hf hM (lv_sub hl [0, 1, 3] rfl)
    · replace hf := m_ifF hf cc1
      refine lv_iload_n hx hb dX12_deepOf_20 rfl (lv_at hl 2 rfl) ?_
      refine lv_goto (tgt := 27) hx hb dX12_deepOf_21 (by decide) ?_
      exact w_deepOf_27 X hret hself5 hf hM (lv_sub hl [0, 1, 3] rfl)
noncomputable def f_deepOf_5 : Nat → Int32 → Int32 → Int32 → (Nat → Int32) → (Nat → Nat → Int32) → Option (Int32 × MS)
  | 0 => fun _ _ _ _ _ => none
  | n + 1 => f_deepOf_5s (f_deepOf_5 n)
theorem w_deepOf_5 {p : Program} {l : Launch} {e : Env} {s : State} {m : MethodId} {args : Array Value} {below : List Frame} {meth : Method} {c : Code} {Q : State → Prop} {D : va_G} {cy ci : ClassId} {h : Nat → Nat} {A0 : Nat → Prop} {o : Int32 × MS} (X : CallFix p m c cX12_deepOf 5 s args wsX12_deepOf RX12) (hret : mRi p l e ({ frames := 1, cells := 0, slots := 0, locals := 22 } : Room) s m args below meth c Q cX12_deepOf D cy ci h A0 .int o) (n : Nat) : ∀ (x1 : Int32) (x3 : Int32) (x4 : Int32) (I : Nat → Int32) (A : Nat → Nat → Int32) (H : Heap) (locs : List Loc) (ls : Array Slot), f_deepOf_5 n x1 x3 x4 I A = some o → mH D cy ci h A0 s H locs I A → lv_has ls 5 [(0, .ref (h 0)), (1, .int x1), (3, .int x3), (4, .int x4)] → W p l e ({ frames := 1, cells := 0, slots := 0, locals := 22 } : Room) s m args below meth c H locs 0 0 Q (F0 m 5 ls []) := by
  induction n with
  | zero => intro x1 x3 x4 I A H locs ls hf; cases hf
  | succ n ih => intro x1 x3 x4 I A H locs ls hf hM hl; exact ws_deepOf_5 X hret (self5 := f_deepOf_5 n) ih hf hM hl
noncomputable def f_deepOf_0 (x1 : Int32) (x2 : Int32) (I : Nat → Int32) (A : Nat → Nat → Int32) : Option (Int32 × MS) :=
  f_deepOf_5 mFuel x1 (0 : Int32) x2 I A

set_option maxRecDepth 100000 in
set_option maxHeartbeats 4000000 in
theorem w_deepOf_0 {p : Program} {l : Launch} {e : Env} {s : State} {m : MethodId} {args : Array Value} {below : List Frame} {meth : Method} {c : Code} {Q : State → Prop} {D : va_G} {cy ci : ClassId} {h : Nat → Nat} {A0 : Nat → Prop} {o : Int32 × MS} (X : CallFix p m c cX12_deepOf 5 s args wsX12_deepOf RX12) (hret : mRi p l e ({ frames := 1, cells := 0, slots := 0, locals := 22 } : Room) s m args below meth c Q cX12_deepOf D cy ci h A0 .int o) {x1 : Int32} {x2 : Int32} {I : Nat → Int32} {A : Nat → Nat → Int32} {H : Heap} {locs : List Loc} {ls : Array Slot} (hf : f_deepOf_0 x1 x2 I A = some o) (hM : mH D cy ci h A0 s H locs I A) (hl : lv_has ls 5 [(0, .ref (h 0)), (1, .int x1), (2, .int x2)]) : W p l e ({ frames := 1, cells := 0, slots := 0, locals := 22 } : Room) s m args below meth c H locs 0 0 Q (F0 m 0 ls []) := by
  obtain ⟨hx, hb, hml, hown, hts⟩ := id X
  unfold f_deepOf_0 at hf
  refine lv_iconst (v := (0 : Int32)) hx hb dX12_deepOf_0 (by decide) ?_
  refine lv_istore_n (lv' := [(3, .int (0 : Int32)), (0, .ref (h 0)), (1, .int x1), (2, .int x2)]) hx hb dX12_deepOf_1 rfl hl (by decide) rfl (fun ls hl => ?_)
  refine lv_iload_n hx hb dX12_deepOf_2 rfl (lv_at hl 3 rfl) ?_
  refine lv_istore (lv' := [(4, .int x2), (3, .int (0 : Int32)), (0, .ref (h 0)), (1, .int x1), (2, .int x2)]) hx hb dX12_deepOf_3 hl (by decide) rfl (fun ls hl => ?_)
  exact w_deepOf_5 X hret _ _ _ _ _ _ _ _ _ hf hM (lv_sub hl [2, 3, 1, 0] rfl)
noncomputable def f_deepOf (x1 : Int32) (x2 : Int32) (I : Nat → Int32) (A : Nat → Nat → Int32) : Option (Int32 × MS) := f_deepOf_0 x1 x2 I A
theorem c_deepOf {l : Launch} {D : va_G} {cy ci : ClassId} {h : Nat → Nat} {x1 : Int32} {x2 : Int32} {I : Nat → Int32} {A : Nat → Nat → Int32} {o : Int32 × MS} (hf : f_deepOf x1 x2 I A = some o) : mMi l yX12_deepOf wsX12_deepOf ({ frames := 1, cells := 0, slots := 0, locals := 22 } : Room) [.ref (h 0), .int x1, .int x2] D cy ci h I A o :=
  m_entryI (cc := cX12_deepOf) (maxL := 5) (by decide) rfl rfl (Nat.le_of_ble_eq_true rfl) (fun p e s m args below meth c A0 Q H locs ls X hret hM hl => w_deepOf_0 X hret hf hM (lv_sub hl [0, 1, 2] rfl))
theorem hw_spell : ∀ w ∈ wsX120, w ∈ wsX12_spell := by decide +kernel
theorem fl_spell_35 : Cond.fieldLink RX12 85 "MoveTextsModel" "spelled" "[C" ∈ wsX12_spell := by decide +kernel
theorem fl_spell_36 : Cond.fieldLink RX12 191 "MoveTextsModel" "spelledSize" "I" ∈ wsX12_spell := by decide +kernel
theorem hd_spell : yX12_spell.cls = RX12 ∧ yX12_spell.cls ≠ "java/lang/invoke/MethodHandle" ∧ yX12_spell.cls ≠ "java/lang/invoke/VarHandle" ∧ (parseMethodDescriptor yX12_spell.desc).map (fun d => d.parameters.length) = some 1 := by decide +kernel
noncomputable def f_spell_0 (x1 : Int32) (I : Nat → Int32) (A : Nat → Nat → Int32) : Option (Int32 × MS) :=
  m_chk (¬ ((I 36) < 0 ∨ 16 ≤ ((I 36)).toNatClampNeg)) (
  m_bnd (va_up A 35 (upd (A 35) ((I 36)).toNatClampNeg (vp_nar .char x1))) (fun A1 =>
  m_bnd ((I 36) + (1 : Int32)) (fun v2 =>
  m_bnd (upd I 36 v2) (fun I3 =>
  some (0, (I3, A1))))))

set_option maxRecDepth 100000 in
set_option maxHeartbeats 4000000 in
theorem w_spell_0 {p : Program} {l : Launch} {e : Env} {s : State} {m : MethodId} {args : Array Value} {below : List Frame} {meth : Method} {c : Code} {Q : State → Prop} {D : va_G} {cy ci : ClassId} {h : Nat → Nat} {A0 : Nat → Prop} {o : Int32 × MS} (X : CallFix p m c cX12_spell 2 s args wsX12_spell RX12) (hret : mRv p l e ({ frames := 0, cells := 0, slots := 0, locals := 0 } : Room) s m args below meth c Q cX12_spell D cy ci h A0 o) {x1 : Int32} {I : Nat → Int32} {A : Nat → Nat → Int32} {H : Heap} {locs : List Loc} {ls : Array Slot} (hf : f_spell_0 x1 I A = some o) (hM : mH D cy ci h A0 s H locs I A) (hl : lv_has ls 2 [(0, .ref (h 0)), (1, .int x1)]) : W p l e ({ frames := 0, cells := 0, slots := 0, locals := 0 } : Room) s m args below meth c H locs 0 0 Q (F0 m 0 ls []) := by
  obtain ⟨hx, hb, hml, hown, hts⟩ := id X
  unfold f_spell_0 at hf
  refine lv_aload_n hx hb dX12_spell_0 rfl (lv_at hl 0 rfl) ?_
  refine m_get (v := .ref (h 35)) X hw_spell hM 35 (by decide) fl_spell_35 rfl dX12_spell_1 ?_
  refine lv_aload_n hx hb dX12_spell_4 rfl (lv_at hl 0 rfl) ?_
  refine m_get (v := .int (I 36)) X hw_spell hM 36 (by decide) fl_spell_36 rfl dX12_spell_5 ?_
  refine lv_iload_n hx hb dX12_spell_8 rfl (lv_at hl 1 rfl) ?_
  obtain ⟨cd, hf⟩ := m_chkE hf
  refine m_cast X hM 35 25 16 rfl ma_35 cd dX12_spell_9 (fun H locs hM => ?_)
  clear cd
  obtain ⟨A1, ev, hf⟩ := m_bndE hf
  replace hM := m_hA hM ev
  clear ev
  refine lv_aload_n hx hb dX12_spell_10 rfl (lv_at hl 0 rfl) ?_
  refine lv_dup hx hb dX12_spell_11 rfl ?_
  refine m_get (v := .int (I 36)) X hw_spell hM 36 (by decide) fl_spell_36 rfl dX12_spell_12 ?_
  refine lv_iconst (v := (1 : Int32)) hx hb dX12_spell_15 (by decide) ?_
  refine lv_iadd hx hb dX12_spell_16 ?_
  obtain ⟨v2, ev, hf⟩ := m_bndE hf
  refine m_top ev ?_
  clear ev
  refine m_put X hw_spell hM 36 (by decide) fl_spell_36 mi_36 rfl (tyX12_ok 36 (by decide)) dX12_spell_17 (fun H locs hM => ?_)
  obtain ⟨I3, ev, hf⟩ := m_bndE hf
  replace hM := m_hI hM ev
  clear ev
  cases hf
  exact hret H locs _ ls hM dX12_spell_20
noncomputable def f_spell (x1 : Int32) (I : Nat → Int32) (A : Nat → Nat → Int32) : Option (Int32 × MS) := f_spell_0 x1 I A
theorem c_spell {l : Launch} {D : va_G} {cy ci : ClassId} {h : Nat → Nat} {x1 : Int32} {I : Nat → Int32} {A : Nat → Nat → Int32} {o : Int32 × MS} (hf : f_spell x1 I A = some o) : mMv l yX12_spell wsX12_spell ({ frames := 0, cells := 0, slots := 0, locals := 0 } : Room) [.ref (h 0), .int x1] D cy ci h I A o :=
  m_entryV (cc := cX12_spell) (maxL := 2) (by decide) rfl rfl (Nat.le_of_ble_eq_true rfl) (fun p e s m args below meth c A0 Q H locs ls X hret hM hl => w_spell_0 X hret hf hM (lv_sub hl [0, 1] rfl))
theorem hd_spellSquare : yX12_spellSquare.cls = RX12 ∧ yX12_spellSquare.cls ≠ "java/lang/invoke/MethodHandle" ∧ yX12_spellSquare.cls ≠ "java/lang/invoke/VarHandle" ∧ (parseMethodDescriptor yX12_spellSquare.desc).map (fun d => d.parameters.length) = some 1 := by decide +kernel
noncomputable def f_spellSquare_0 (x1 : Int32) (I : Nat → Int32) (A : Nat → Nat → Int32) : Option (Int32 × MS) :=
  m_bnd (x1 - x1 / (8 : Int32) * (8 : Int32)) (fun v1 =>
  m_bnd ((97 : Int32) + v1) (fun v2 =>
  m_bnd ((v2.toUInt32 % 65536).toInt32) (fun v3 =>
  m_cl (f_spell v3 I A) (fun r4 Ic4 Ac4 =>
  m_bnd (x1 / (8 : Int32)) (fun v5 =>
  m_bnd ((49 : Int32) + v5) (fun v6 =>
  m_bnd ((v6.toUInt32 % 65536).toInt32) (fun v7 =>
  m_cl (f_spell v7 Ic4 Ac4) (fun r8 Ic8 Ac8 =>
  some (0, (Ic8, Ac8))))))))))

set_option maxRecDepth 100000 in
set_option maxHeartbeats 4000000 in
theorem w_spellSquare_0 {p : Program} {l : Launch} {e : Env} {s : State} {m : MethodId} {args : Array Value} {below : List Frame} {meth : Method} {c : Code} {Q : State → Prop} {D : va_G} {cy ci : ClassId} {h : Nat → Nat} {A0 : Nat → Prop} {o : Int32 × MS} (X : CallFix p m c cX12_spellSquare 2 s args wsX12_spellSquare RX12) (hret : mRv p l e ({ frames := 1, cells := 0, slots := 0, locals := 21 } : Room) s m args below meth c Q cX12_spellSquare D cy ci h A0 o) {x1 : Int32} {I : Nat → Int32} {A : Nat → Nat → Int32} {H : Heap} {locs : List Loc} {ls : Array Slot} (hf : f_spellSquare_0 x1 I A = some o) (hM : mH D cy ci h A0 s H locs I A) (hl : lv_has ls 2 [(0, .ref (h 0)), (1, .int x1)]) : W p l e ({ frames := 1, cells := 0, slots := 0, locals := 21 } : Room) s m args below meth c H locs 0 0 Q (F0 m 0 ls []) := by
  obtain ⟨hx, hb, hml, hown, hts⟩ := id X
  unfold f_spellSquare_0 at hf
  refine lv_aload_n hx hb dX12_spellSquare_0 rfl (lv_at hl 0 rfl) ?_
  refine lv_bipush (v := (97 : Int32)) hx hb dX12_spellSquare_1 (by decide) ?_
  refine lv_iload_n hx hb dX12_spellSquare_3 rfl (lv_at hl 1 rfl) ?_
  refine lv_bipush (v := (8 : Int32)) hx hb dX12_spellSquare_4 (by decide) ?_
  refine lv_irem hx hb dX12_spellSquare_6 (by decide) ?_
  obtain ⟨v1, ev, hf⟩ := m_bndE hf
  refine m_top ev ?_
  clear ev
  refine lv_iadd hx hb dX12_spellSquare_7 ?_
  obtain ⟨v2, ev, hf⟩ := m_bndE hf
  refine m_top ev ?_
  clear ev
  refine lv_i2c (v := (v2.toUInt32 % 65536).toInt32) hx hb dX12_spellSquare_8 rfl ?_
  obtain ⟨v3, ev, hf⟩ := m_bndE hf
  refine m_top ev ?_
  clear ev
  obtain ⟨o4, ho, hf⟩ := m_clE hf
  refine m_callVv X hM (c_spell ho) gX12_spellSquare_X12_spell rfl ⟨rfl, rfl⟩ hd_spell ⟨Nat.le_of_ble_eq_true rfl, Nat.le_of_ble_eq_true rfl⟩ rfl hl.1 rfl (Nat.le_of_ble_eq_true rfl) dX12_spellSquare_9 (fun H locs hM => ?_)
  clear ho
  refine lv_aload_n hx hb dX12_spellSquare_12 rfl (lv_at hl 0 rfl) ?_
  refine lv_bipush (v := (49 : Int32)) hx hb dX12_spellSquare_13 (by decide) ?_
  refine lv_iload_n hx hb dX12_spellSquare_15 rfl (lv_at hl 1 rfl) ?_
  refine lv_bipush (v := (8 : Int32)) hx hb dX12_spellSquare_16 (by decide) ?_
  refine lv_idiv hx hb dX12_spellSquare_18 (by decide) ?_
  obtain ⟨v5, ev, hf⟩ := m_bndE hf
  refine m_top ev ?_
  clear ev
  refine lv_iadd hx hb dX12_spellSquare_19 ?_
  obtain ⟨v6, ev, hf⟩ := m_bndE hf
  refine m_top ev ?_
  clear ev
  refine lv_i2c (v := (v6.toUInt32 % 65536).toInt32) hx hb dX12_spellSquare_20 rfl ?_
  obtain ⟨v7, ev, hf⟩ := m_bndE hf
  refine m_top ev ?_
  clear ev
  obtain ⟨o8, ho, hf⟩ := m_clE hf
  refine m_callVv X hM (c_spell ho) gX12_spellSquare_X12_spell rfl ⟨rfl, rfl⟩ hd_spell ⟨Nat.le_of_ble_eq_true rfl, Nat.le_of_ble_eq_true rfl⟩ rfl hl.1 rfl (Nat.le_of_ble_eq_true rfl) dX12_spellSquare_21 (fun H locs hM => ?_)
  clear ho
  cases hf
  exact hret H locs _ ls hM dX12_spellSquare_24
noncomputable def f_spellSquare (x1 : Int32) (I : Nat → Int32) (A : Nat → Nat → Int32) : Option (Int32 × MS) := f_spellSquare_0 x1 I A
theorem c_spellSquare {l : Launch} {D : va_G} {cy ci : ClassId} {h : Nat → Nat} {x1 : Int32} {I : Nat → Int32} {A : Nat → Nat → Int32} {o : Int32 × MS} (hf : f_spellSquare x1 I A = some o) : mMv l yX12_spellSquare wsX12_spellSquare ({ frames := 1, cells := 0, slots := 0, locals := 21 } : Room) [.ref (h 0), .int x1] D cy ci h I A o :=
  m_entryV (cc := cX12_spellSquare) (maxL := 2) (by decide) rfl rfl (Nat.le_of_ble_eq_true rfl) (fun p e s m args below meth c A0 Q H locs ls X hret hM hl => w_spellSquare_0 X hret hf hM (lv_sub hl [0, 1] rfl))
theorem hd_letter : yX12_letter.cls ≠ "java/lang/invoke/MethodHandle" ∧ yX12_letter.cls ≠ "java/lang/invoke/VarHandle" ∧ (parseMethodDescriptor yX12_letter.desc).map (fun d => d.parameters.length) = some 1 := by decide +kernel
noncomputable def f_letter_42 (t0 : Int32) (I : Nat → Int32) (A : Nat → Nat → Int32) : Option (Int32 × MS) :=
  m_chk (vp_nar .char t0 = t0) (some (t0, (I, A)))

set_option maxRecDepth 100000 in
set_option maxHeartbeats 4000000 in
theorem w_letter_42 {p : Program} {l : Launch} {e : Env} {s : State} {m : MethodId} {args : Array Value} {below : List Frame} {meth : Method} {c : Code} {Q : State → Prop} {D : va_G} {cy ci : ClassId} {h : Nat → Nat} {A0 : Nat → Prop} {o : Int32 × MS} (X : CallFix p m c cX12_letter 1 s args wsX12_letter RX12) (hret : mRi p l e ({ frames := 0, cells := 0, slots := 0, locals := 0 } : Room) s m args below meth c Q cX12_letter D cy ci h A0 .char o) {t0 : Int32} {I : Nat → Int32} {A : Nat → Nat → Int32} {H : Heap} {locs : List Loc} {ls : Array Slot} (hf : f_letter_42 t0 I A = some o) (hM : mH D cy ci h A0 s H locs I A) (hl : lv_has ls 1 []) : W p l e ({ frames := 0, cells := 0, slots := 0, locals := 0 } : Room) s m args below meth c H locs 0 0 Q (F0 m 42 ls [.int t0]) := by
  obtain ⟨hx, hb, hml, hown, hts⟩ := id X
  unfold f_letter_42 at hf
  obtain ⟨cd, hf⟩ := m_chkE hf
  cases hf
  exact hret H locs _ ls hM (m_nc cd) dX12_letter_42
noncomputable def f_letter_0 (x0 : Int32) (I : Nat → Int32) (A : Nat → Nat → Int32) : Option (Int32 × MS) :=
  m_if (x0 = (2 : Int32)) (
  f_letter_42 (78 : Int32) I A
  ) (
  m_if (x0 = (3 : Int32)) (
  f_letter_42 (66 : Int32) I A
  ) (
  m_if (x0 = (4 : Int32)) (
  f_letter_42 (82 : Int32) I A
  ) (
  m_if (x0 = (5 : Int32)) (
  f_letter_42 (81 : Int32) I A
  ) (
  f_letter_42 (75 : Int32) I A
  )
  )
  )
  )

set_option maxRecDepth 100000 in
set_option maxHeartbeats 4000000 in
theorem w_letter_0 {p : Program} {l : Launch} {e : Env} {s : State} {m : MethodId} {args : Array Value} {below : List Frame} {meth : Method} {c : Code} {Q : State → Prop} {D : va_G} {cy ci : ClassId} {h : Nat → Nat} {A0 : Nat → Prop} {o : Int32 × MS} (X : CallFix p m c cX12_letter 1 s args wsX12_letter RX12) (hret : mRi p l e ({ frames := 0, cells := 0, slots := 0, locals := 0 } : Room) s m args below meth c Q cX12_letter D cy ci h A0 .char o) {x0 : Int32} {I : Nat → Int32} {A : Nat → Nat → Int32} {H : Heap} {locs : List Loc} {ls : Array Slot} (hf : f_letter_0 x0 I A = some o) (hM : mH D cy ci h A0 s H locs I A) (hl : lv_has ls 1 [(0, .int x0)]) : W p l e ({ frames := 0, cells := 0, slots := 0, locals := 0 } : Room) s m args below meth c H locs 0 0 Q (F0 m 0 ls []) := by
  obtain ⟨hx, hb, hml, hown, hts⟩ := id X
  unfold f_letter_0 at hf
  refine lv_iload_n hx hb dX12_letter_0 rfl (lv_at hl 0 rfl) ?_
  refine lv_iconst (v := (2 : Int32)) hx hb dX12_letter_1 (by decide) ?_
  refine lv_icmp_ne (tgt := 10) hx hb dX12_letter_2 (by decide) (fun cc1 => ?_) (fun cc1 => ?_)
  · replace hf := m_ifF hf cc1
    refine lv_iload_n hx hb dX12_letter_10 rfl (lv_at hl 0 rfl) ?_
    refine lv_iconst (v := (3 : Int32)) hx hb dX12_letter_11 (by decide) ?_
    refine lv_icmp_ne (tgt := 20) hx hb dX12_letter_12 (by decide) (fun cc1 => ?_) (fun cc1 => ?_)
    · replace hf := m_ifF hf cc1
      refine lv_iload_n hx hb dX12_letter_20 rfl (lv_at hl 0 rfl) ?_
      refine lv_iconst (v := (4 : Int32)) hx hb dX12_letter_21 (by decide) ?_
      refine lv_icmp_ne (tgt := 30) hx hb dX12_letter_22 (by decide) (fun cc1 => ?_) (fun cc1 => ?_)
      · replace hf := m_ifF hf cc1
        refine lv_iload_n hx hb dX12_letter_30 rfl (lv_at hl 0 rfl) ?_
        refine lv_iconst (v := (5 : Int32)) hx hb dX12_letter_31 (by decide) ?_
        refine lv_icmp_ne (tgt := 40) hx hb dX12_letter_32 (by decide) (fun cc1 => ?_) (fun cc1 => ?_)
        · replace hf := m_ifF hf cc1
          refine lv_bipush (v := (75 : Int32)) hx hb dX12_letter_40 (by decide) ?_
          exact w_letter_42 X hret hf hM (lv_sub hl [] rfl)
        · replace hf := m_ifT hf cc1
          refine lv_bipush (v := (81 : Int32)) hx hb dX12_letter_35 (by decide) ?_
          refine lv_goto (tgt := 42) hx hb dX12_letter_37 (by decide) ?_
          exact w_letter_42 X hret hf hM (lv_sub hl [] rfl)
      · replace hf := m_ifT hf cc1
        refine lv_bipush (v := (82 : Int32)) hx hb dX12_letter_25 (by decide) ?_
        refine lv_goto (tgt := 42) hx hb dX12_letter_27 (by decide) ?_
        exact w_letter_42 X hret hf hM (lv_sub hl [] rfl)
    · replace hf := m_ifT hf cc1
      refine lv_bipush (v := (66 : Int32)) hx hb dX12_letter_15 (by decide) ?_
      refine lv_goto (tgt := 42) hx hb dX12_letter_17 (by decide) ?_
      exact w_letter_42 X hret hf hM (lv_sub hl [] rfl)
  · replace hf := m_ifT hf cc1
    refine lv_bipush (v := (78 : Int32)) hx hb dX12_letter_5 (by decide) ?_
    refine lv_goto (tgt := 42) hx hb dX12_letter_7 (by decide) ?_
    exact w_letter_42 X hret hf hM (lv_sub hl [] rfl)
noncomputable def f_letter (x0 : Int32) (I : Nat → Int32) (A : Nat → Nat → Int32) : Option (Int32 × MS) := f_letter_0 x0 I A
theorem c_letter {l : Launch} {D : va_G} {cy ci : ClassId} {h : Nat → Nat} {x0 : Int32} {I : Nat → Int32} {A : Nat → Nat → Int32} {o : Int32 × MS} (hf : f_letter x0 I A = some o) : mMi l yX12_letter wsX12_letter ({ frames := 0, cells := 0, slots := 0, locals := 0 } : Room) [.int x0] D cy ci h I A o :=
  m_entryI (cc := cX12_letter) (maxL := 1) (by decide) rfl rfl (Nat.le_of_ble_eq_true rfl) (fun p e s m args below meth c A0 Q H locs ls X hret hM hl => w_letter_0 X hret hf hM (lv_sub hl [0] rfl))
theorem hw_isCastling : ∀ w ∈ wsX120, w ∈ wsX12_isCastling := by decide +kernel
theorem fl_isCastling_24 : Cond.fieldLink RX12 70 "MoveTextsModel" "men" "[I" ∈ wsX12_isCastling := by decide +kernel
theorem hd_isCastling : yX12_isCastling.cls = RX12 ∧ yX12_isCastling.cls ≠ "java/lang/invoke/MethodHandle" ∧ yX12_isCastling.cls ≠ "java/lang/invoke/VarHandle" ∧ (parseMethodDescriptor yX12_isCastling.desc).map (fun d => d.parameters.length) = some 1 := by decide +kernel
noncomputable def f_isCastling_46 (t0 : Int32) (I : Nat → Int32) (A : Nat → Nat → Int32) : Option (Int32 × MS) :=
  m_chk (vp_nar .boolean t0 = t0) (some (t0, (I, A)))

set_option maxRecDepth 100000 in
set_option maxHeartbeats 4000000 in
theorem w_isCastling_46 {p : Program} {l : Launch} {e : Env} {s : State} {m : MethodId} {args : Array Value} {below : List Frame} {meth : Method} {c : Code} {Q : State → Prop} {D : va_G} {cy ci : ClassId} {h : Nat → Nat} {A0 : Nat → Prop} {o : Int32 × MS} (X : CallFix p m c cX12_isCastling 4 s args wsX12_isCastling RX12) (hret : mRi p l e ({ frames := 1, cells := 0, slots := 0, locals := 20 } : Room) s m args below meth c Q cX12_isCastling D cy ci h A0 .boolean o) {t0 : Int32} {I : Nat → Int32} {A : Nat → Nat → Int32} {H : Heap} {locs : List Loc} {ls : Array Slot} (hf : f_isCastling_46 t0 I A = some o) (hM : mH D cy ci h A0 s H locs I A) (hl : lv_has ls 4 []) : W p l e ({ frames := 1, cells := 0, slots := 0, locals := 20 } : Room) s m args below meth c H locs 0 0 Q (F0 m 46 ls [.int t0]) := by
  obtain ⟨hx, hb, hml, hown, hts⟩ := id X
  unfold f_isCastling_46 at hf
  obtain ⟨cd, hf⟩ := m_chkE hf
  cases hf
  exact hret H locs _ ls hM (m_nb cd) dX12_isCastling_46
noncomputable def f_isCastling_45 (I : Nat → Int32) (A : Nat → Nat → Int32) : Option (Int32 × MS) :=
  f_isCastling_46 (0 : Int32) I A

set_option maxRecDepth 100000 in
set_option maxHeartbeats 4000000 in
theorem w_isCastling_45 {p : Program} {l : Launch} {e : Env} {s : State} {m : MethodId} {args : Array Value} {below : List Frame} {meth : Method} {c : Code} {Q : State → Prop} {D : va_G} {cy ci : ClassId} {h : Nat → Nat} {A0 : Nat → Prop} {o : Int32 × MS} (X : CallFix p m c cX12_isCastling 4 s args wsX12_isCastling RX12) (hret : mRi p l e ({ frames := 1, cells := 0, slots := 0, locals := 20 } : Room) s m args below meth c Q cX12_isCastling D cy ci h A0 .boolean o) {I : Nat → Int32} {A : Nat → Nat → Int32} {H : Heap} {locs : List Loc} {ls : Array Slot} (hf : f_isCastling_45  I A = some o) (hM : mH D cy ci h A0 s H locs I A) (hl : lv_has ls 4 []) : W p l e ({ frames := 1, cells := 0, slots := 0, locals := 20 } : Room) s m args below meth c H locs 0 0 Q (F0 m 45 ls []) := by
  obtain ⟨hx, hb, hml, hown, hts⟩ := id X
  unfold f_isCastling_45 at hf
  refine lv_iconst (v := (0 : Int32)) hx hb dX12_isCastling_45 (by decide) ?_
  exact w_isCastling_46 X hret hf hM (lv_sub hl [] rfl)
noncomputable def f_isCastling_41 (I : Nat → Int32) (A : Nat → Nat → Int32) : Option (Int32 × MS) :=
  f_isCastling_46 (1 : Int32) I A

set_option maxRecDepth 100000 in
set_option maxHeartbeats 4000000 in
theorem w_isCastling_41 {p : Program} {l : Launch} {e : Env} {s : State} {m : MethodId} {args : Array Value} {below : List Frame} {meth : Method} {c : Code} {Q : State → Prop} {D : va_G} {cy ci : ClassId} {h : Nat → Nat} {A0 : Nat → Prop} {o : Int32 × MS} (X : CallFix p m c cX12_isCastling 4 s args wsX12_isCastling RX12) (hret : mRi p l e ({ frames := 1, cells := 0, slots := 0, locals := 20 } : Room) s m args below meth c Q cX12_isCastling D cy ci h A0 .boolean o) {I : Nat → Int32} {A : Nat → Nat → Int32} {H : Heap} {locs : List Loc} {ls : Array Slot} (hf : f_isCastling_41  I A = some o) (hM : mH D cy ci h A0 s H locs I A) (hl : lv_has ls 4 []) : W p l e ({ frames := 1, cells := 0, slots := 0, locals := 20 } : Room) s m args below meth c H locs 0 0 Q (F0 m 41 ls []) := by
  obtain ⟨hx, hb, hml, hown, hts⟩ := id X
  unfold f_isCastling_41 at hf
  refine lv_iconst (v := (1 : Int32)) hx hb dX12_isCastling_41 (by decide) ?_
  refine lv_goto (tgt := 46) hx hb dX12_isCastling_42 (by decide) ?_
  exact w_isCastling_46 X hret hf hM (lv_sub hl [] rfl)
noncomputable def f_isCastling_0 (x1 : Int32) (I : Nat → Int32) (A : Nat → Nat → Int32) : Option (Int32 × MS) :=
  m_bnd (x1 - x1 / (64 : Int32) * (64 : Int32)) (fun v1 =>
  m_bnd (x1 / (64 : Int32)) (fun v2 =>
  m_bnd (v2 - v2 / (64 : Int32) * (64 : Int32)) (fun v3 =>
  m_chk (¬ (v1 < 0 ∨ 64 ≤ (v1).toNatClampNeg)) (
  m_bnd (A 24 (v1).toNatClampNeg) (fun v4 =>
  m_cl (f_kind v4 I A) (fun r5 Ic5 Ac5 =>
  m_if (r5 = (6 : Int32)) (
  m_bnd (v1 + (2 : Int32)) (fun v6 =>
  m_if (v3 = v6) (
  f_isCastling_41  Ic5 Ac5
  ) (
  m_bnd (v1 - (2 : Int32)) (fun v7 =>
  m_if (v3 = v7) (
  f_isCastling_41  Ic5 Ac5
  ) (
  f_isCastling_45  Ic5 Ac5
  ))
  ))
  ) (
  f_isCastling_45  Ic5 Ac5
  )))))))

set_option maxRecDepth 100000 in
set_option maxHeartbeats 4000000 in
theorem w_isCastling_0 {p : Program} {l : Launch} {e : Env} {s : State} {m : MethodId} {args : Array Value} {below : List Frame} {meth : Method} {c : Code} {Q : State → Prop} {D : va_G} {cy ci : ClassId} {h : Nat → Nat} {A0 : Nat → Prop} {o : Int32 × MS} (X : CallFix p m c cX12_isCastling 4 s args wsX12_isCastling RX12) (hret : mRi p l e ({ frames := 1, cells := 0, slots := 0, locals := 20 } : Room) s m args below meth c Q cX12_isCastling D cy ci h A0 .boolean o) {x1 : Int32} {I : Nat → Int32} {A : Nat → Nat → Int32} {H : Heap} {locs : List Loc} {ls : Array Slot} (hf : f_isCastling_0 x1 I A = some o) (hM : mH D cy ci h A0 s H locs I A) (hl : lv_has ls 4 [(0, .ref (h 0)), (1, .int x1)]) : W p l e ({ frames := 1, cells := 0, slots := 0, locals := 20 } : Room) s m args below meth c H locs 0 0 Q (F0 m 0 ls []) := by
  obtain ⟨hx, hb, hml, hown, hts⟩ := id X
  unfold f_isCastling_0 at hf
  refine lv_iload_n hx hb dX12_isCastling_0 rfl (lv_at hl 1 rfl) ?_
  refine lv_bipush (v := (64 : Int32)) hx hb dX12_isCastling_1 (by decide) ?_
  refine lv_irem hx hb dX12_isCastling_3 (by decide) ?_
  obtain ⟨v1, ev, hf⟩ := m_bndE hf
  refine m_top ev ?_
  clear ev
  refine lv_istore_n (lv' := [(2, .int v1), (0, .ref (h 0)), (1, .int x1)]) hx hb dX12_isCastling_4 rfl hl (by decide) rfl (fun ls hl => ?_)
  refine lv_iload_n hx hb dX12_isCastling_5 rfl (lv_at hl 2 rfl) ?_
  refine lv_bipush (v := (64 : Int32)) hx hb dX12_isCastling_6 (by decide) ?_
  refine lv_idiv hx hb dX12_isCastling_8 (by decide) ?_
  obtain ⟨v2, ev, hf⟩ := m_bndE hf
  refine m_top ev ?_
  clear ev
  refine lv_bipush (v := (64 : Int32)) hx hb dX12_isCastling_9 (by decide) ?_
  refine lv_irem hx hb dX12_isCastling_11 (by decide) ?_
  obtain ⟨v3, ev, hf⟩ := m_bndE hf
  refine m_top ev ?_
  clear ev
  refine lv_istore_n (lv' := [(3, .int v3), (2, .int v1), (0, .ref (h 0)), (1, .int x1)]) hx hb dX12_isCastling_12 rfl hl (by decide) rfl (fun ls hl => ?_)
  refine lv_aload_n hx hb dX12_isCastling_13 rfl (lv_at hl 2 rfl) ?_
  refine m_get (v := .ref (h 24)) X hw_isCastling hM 24 (by decide) fl_isCastling_24 rfl dX12_isCastling_14 ?_
  refine lv_iload_n hx hb dX12_isCastling_17 rfl (lv_at hl 1 rfl) ?_
  obtain ⟨cd, hf⟩ := m_chkE hf
  refine m_iald X hM 24 20 64 rfl cd dX12_isCastling_18 ?_
  clear cd
  obtain ⟨v4, ev, hf⟩ := m_bndE hf
  refine m_top ev ?_
  clear ev
  obtain ⟨o5, ho, hf⟩ := m_clE hf
  refine m_callSi X hM (c_kind ho) gX12_isCastling_X12_kind rfl ⟨rfl, rfl⟩ hd_kind ⟨Nat.le_of_ble_eq_true rfl, Nat.le_of_ble_eq_true rfl⟩ rfl hl.1 rfl (Nat.le_of_ble_eq_true rfl) dX12_isCastling_19 (fun H locs hM => ?_)
  clear ho
  refine lv_bipush (v := (6 : Int32)) hx hb dX12_isCastling_22 (by decide) ?_
  refine lv_icmp_ne (tgt := 45) hx hb dX12_isCastling_24 (by decide) (fun cc1 => ?_) (fun cc1 => ?_)
  · replace hf := m_ifF hf cc1
    exact w_isCastling_45 X hret hf hM (lv_sub hl [] rfl)
  · replace hf := m_ifT hf cc1
    refine lv_iload_n hx hb dX12_isCastling_27 rfl (lv_at hl 0 rfl) ?_
    refine lv_iload_n hx hb dX12_isCastling_28 rfl (lv_at hl 1 rfl) ?_
    refine lv_iconst (v := (2 : Int32)) hx hb dX12_isCastling_29 (by decide) ?_
    refine lv_iadd hx hb dX12_isCastling_30 ?_
    obtain ⟨v6, ev, hf⟩ := m_bndE hf
    refine m_top ev ?_
    clear ev
    refine lv_icmp_eq (tgt := 41) hx hb dX12_isCastling_31 (by decide) (fun cc1 => ?_) (fun cc1 => ?_)
    · replace hf := m_ifT hf cc1
      exact w_isCastling_41 X hret hf hM (lv_sub hl [] rfl)
    · replace hf := m_ifF hf cc1
      refine lv_iload_n hx hb dX12_isCastling_34 rfl (lv_at hl 0 rfl) ?_
      refine lv_iload_n hx hb dX12_isCastling_35 rfl (lv_at hl 1 rfl) ?_
      refine lv_iconst (v := (2 : Int32)) hx hb dX12_isCastling_36 (by decide) ?_
      refine lv_isub hx hb dX12_isCastling_37 ?_
      obtain ⟨v7, ev, hf⟩ := m_bndE hf
      refine m_top ev ?_
      clear ev
      refine lv_icmp_ne (tgt := 45) hx hb dX12_isCastling_38 (by decide) (fun cc1 => ?_) (fun cc1 => ?_)
      · replace hf := m_ifF hf cc1
        exact w_isCastling_45 X hret hf hM (lv_sub hl [] rfl)
      · replace hf := m_ifT hf cc1
        exact w_isCastling_41 X hret hf hM (lv_sub hl [] rfl)
noncomputable def f_isCastling (x1 : Int32) (I : Nat → Int32) (A : Nat → Nat → Int32) : Option (Int32 × MS) := f_isCastling_0 x1 I A
theorem c_isCastling {l : Launch} {D : va_G} {cy ci : ClassId} {h : Nat → Nat} {x1 : Int32} {I : Nat → Int32} {A : Nat → Nat → Int32} {o : Int32 × MS} (hf : f_isCastling x1 I A = some o) : mMi l yX12_isCastling wsX12_isCastling ({ frames := 1, cells := 0, slots := 0, locals := 20 } : Room) [.ref (h 0), .int x1] D cy ci h I A o :=
  m_entryI (cc := cX12_isCastling) (maxL := 4) (by decide) rfl rfl (Nat.le_of_ble_eq_true rfl) (fun p e s m args below meth c A0 Q H locs ls X hret hM hl => w_isCastling_0 X hret hf hM (lv_sub hl [0, 1] rfl))
theorem hw_spellMove : ∀ w ∈ wsX120, w ∈ wsX12_spellMove := by decide +kernel
theorem fl_spellMove_24 : Cond.fieldLink RX12 70 "MoveTextsModel" "men" "[I" ∈ wsX12_spellMove := by decide +kernel
theorem fl_spellMove_36 : Cond.fieldLink RX12 191 "MoveTextsModel" "spelledSize" "I" ∈ wsX12_spellMove := by decide +kernel
theorem hd_spellMove : yX12_spellMove.cls = RX12 ∧ yX12_spellMove.cls ≠ "java/lang/invoke/MethodHandle" ∧ yX12_spellMove.cls ≠ "java/lang/invoke/VarHandle" ∧ (parseMethodDescriptor yX12_spellMove.desc).map (fun d => d.parameters.length) = some 3 := by decide +kernel
noncomputable def f_spellMove_184 (I : Nat → Int32) (A : Nat → Nat → Int32) : Option (Int32 × MS) :=
  some (0, (I, A))

set_option maxRecDepth 100000 in
set_option maxHeartbeats 4000000 in
theorem w_spellMove_184 {p : Program} {l : Launch} {e : Env} {s : State} {m : MethodId} {args : Array Value} {below : List Frame} {meth : Method} {c : Code} {Q : State → Prop} {D : va_G} {cy ci : ClassId} {h : Nat → Nat} {A0 : Nat → Prop} {o : Int32 × MS} (X : CallFix p m c cX12_spellMove 8 s args wsX12_spellMove RX12) (hret : mRv p l e ({ frames := 2, cells := 0, slots := 0, locals := 43 } : Room) s m args below meth c Q cX12_spellMove D cy ci h A0 o) {I : Nat → Int32} {A : Nat → Nat → Int32} {H : Heap} {locs : List Loc} {ls : Array Slot} (hf : f_spellMove_184  I A = some o) (hM : mH D cy ci h A0 s H locs I A) (hl : lv_has ls 8 []) : W p l e ({ frames := 2, cells := 0, slots := 0, locals := 43 } : Room) s m args below meth c H locs 0 0 Q (F0 m 184 ls []) := by
  obtain ⟨hx, hb, hml, hown, hts⟩ := id X
  unfold f_spellMove_184 at hf
  cases hf
  exact hret H locs _ ls hM dX12_spellMove_184
noncomputable def f_spellMove_158 (x5 : Int32) (x6 : Int32) (I : Nat → Int32) (A : Nat → Nat → Int32) : Option (Int32 × MS) :=
  m_cl (f_spellSquare x5 I A) (fun r1 Ic1 Ac1 =>
  m_if (x6 ≤ 0) (
  f_spellMove_184  Ic1 Ac1
  ) (
  m_cl (f_spell (61 : Int32) Ic1 Ac1) (fun r2 Ic2 Ac2 =>
  m_cl (f_letter x6 Ic2 Ac2) (fun r3 Ic3 Ac3 =>
  m_cl (f_spell r3 Ic3 Ac3) (fun r4 Ic4 Ac4 =>
  f_spellMove_184  Ic4 Ac4)))
  ))

set_option maxRecDepth 100000 in
set_option maxHeartbeats 4000000 in
theorem w_spellMove_158 {p : Program} {l : Launch} {e : Env} {s : State} {m : MethodId} {args : Array Value} {below : List Frame} {meth : Method} {c : Code} {Q : State → Prop} {D : va_G} {cy ci : ClassId} {h : Nat → Nat} {A0 : Nat → Prop} {o : Int32 × MS} (X : CallFix p m c cX12_spellMove 8 s args wsX12_spellMove RX12) (hret : mRv p l e ({ frames := 2, cells := 0, slots := 0, locals := 43 } : Room) s m args below meth c Q cX12_spellMove D cy ci h A0 o) {x5 : Int32} {x6 : Int32} {I : Nat → Int32} {A : Nat → Nat → Int32} {H : Heap} {locs : List Loc} {ls : Array Slot} (hf : f_spellMove_158 x5 x6 I A = some o) (hM : mH D cy ci h A0 s H locs I A) (hl : lv_has ls 8 [(0, .ref (h 0)), (5, .int x5), (6, .int x6)]) : W p l e ({ frames := 2, cells := 0, slots := 0, locals := 43 } : Room) s m args below meth c H locs 0 0 Q (F0 m 158 ls []) := by
  obtain ⟨hx, hb, hml, hown, hts⟩ := id X
  unfold f_spellMove_158 at hf
  refine lv_aload_n hx hb dX12_spellMove_158 rfl (lv_at hl 0 rfl) ?_
  refine lv_iload hx hb dX12_spellMove_159 (lv_at hl 1 rfl) ?_
  obtain ⟨o1, ho, hf⟩ := m_clE hf
  refine m_callVv X hM (c_spellSquare ho) gX12_spellMove_X12_spellSquare rfl ⟨rfl, rfl⟩ hd_spellSquare ⟨Nat.le_of_ble_eq_true rfl, Nat.le_of_ble_eq_true rfl⟩ rfl hl.1 rfl (Nat.le_of_ble_eq_true rfl) dX12_spellMove_161 (fun H locs hM => ?_)
  clear ho
  refine lv_iload hx hb dX12_spellMove_164 (lv_at hl 2 rfl) ?_
  refine lv_if_le (tgt := 184) hx hb dX12_spellMove_166 (by decide) (fun cc1 => ?_) (fun cc1 => ?_)
  · replace hf := m_ifT hf cc1
    exact w_spellMove_184 X hret hf hM (lv_sub hl [] rfl)
  · replace hf := m_ifF hf cc1
    refine lv_aload_n hx hb dX12_spellMove_169 rfl (lv_at hl 0 rfl) ?_
    refine lv_bipush (v := (61 : Int32)) hx hb dX12_spellMove_170 (by decide) ?_
    obtain ⟨o2, ho, hf⟩ := m_clE hf
    refine m_callVv X hM (c_spell ho) gX12_spellMove_X12_spell rfl ⟨rfl, rfl⟩ hd_spell ⟨Nat.le_of_ble_eq_true rfl, Nat.le_of_ble_eq_true rfl⟩ rfl hl.1 rfl (Nat.le_of_ble_eq_true rfl) dX12_spellMove_172 (fun H locs hM => ?_)
    clear ho
    refine lv_aload_n hx hb dX12_spellMove_175 rfl (lv_at hl 0 rfl) ?_
    refine lv_iload hx hb dX12_spellMove_176 (lv_at hl 2 rfl) ?_
    obtain ⟨o3, ho, hf⟩ := m_clE hf
    refine m_callSi X hM (c_letter ho) gX12_spellMove_X12_letter rfl ⟨rfl, rfl⟩ hd_letter ⟨Nat.le_of_ble_eq_true rfl, Nat.le_of_ble_eq_true rfl⟩ rfl hl.1 rfl (Nat.le_of_ble_eq_true rfl) dX12_spellMove_178 (fun H locs hM => ?_)
    clear ho
    obtain ⟨o4, ho, hf⟩ := m_clE hf
    refine m_callVv X hM (c_spell ho) gX12_spellMove_X12_spell rfl ⟨rfl, rfl⟩ hd_spell ⟨Nat.le_of_ble_eq_true rfl, Nat.le_of_ble_eq_true rfl⟩ rfl hl.1 rfl (Nat.le_of_ble_eq_true rfl) dX12_spellMove_181 (fun H locs hM => ?_)
    clear ho
    exact w_spellMove_184 X hret hf hM (lv_sub hl [] rfl)
noncomputable def f_spellMove_148 (x3 : Int32) (x5 : Int32) (x6 : Int32) (I : Nat → Int32) (A : Nat → Nat → Int32) : Option (Int32 × MS) :=
  m_if (x3 = 0) (
  f_spellMove_158 x5 x6 I A
  ) (
  m_cl (f_spell (120 : Int32) I A) (fun r1 Ic1 Ac1 =>
  f_spellMove_158 x5 x6 Ic1 Ac1)
  )

set_option maxRecDepth 100000 in
set_option maxHeartbeats 4000000 in
theorem w_spellMove_148 {p : Program} {l : Launch} {e : Env} {s : State} {m : MethodId} {args : Array Value} {below : List Frame} {meth : Method} {c : Code} {Q : State → Prop} {D : va_G} {cy ci : ClassId} {h : Nat → Nat} {A0 : Nat → Prop} {o : Int32 × MS} (X : CallFix p m c cX12_spellMove 8 s args wsX12_spellMove RX12) (hret : mRv p l e ({ frames := 2, cells := 0, slots := 0, locals := 43 } : Room) s m args below meth c Q cX12_spellMove D cy ci h A0 o) {x3 : Int32} {x5 : Int32} {x6 : Int32} {I : Nat → Int32} {A : Nat → Nat → Int32} {H : Heap} {locs : List Loc} {ls : Array Slot} (hf : f_spellMove_148 x3 x5 x6 I A = some o) (hM : mH D cy ci h A0 s H locs I A) (hl : lv_has ls 8 [(0, .ref (h 0)), (3, .int x3), (5, .int x5), (6, .int x6)]) : W p l e ({ frames := 2, cells := 0, slots := 0, locals := 43 } : Room) s m args below meth c H locs 0 0 Q (F0 m 148 ls []) := by
  obtain ⟨hx, hb, hml, hown, hts⟩ := id X
  unfold f_spellMove_148 at hf
  refine lv_iload_n hx hb dX12_spellMove_148 rfl (lv_at hl 1 rfl) ?_
  refine lv_if_eq (tgt := 158) hx hb dX12_spellMove_149 (by decide) (fun cc1 => ?_) (fun cc1 => ?_)
  · replace hf := m_ifT hf cc1
    exact w_spellMove_158 X hret hf hM (lv_sub hl [0, 2, 3] rfl)
  · replace hf := m_ifF hf cc1
    refine lv_aload_n hx hb dX12_spellMove_152 rfl (lv_at hl 0 rfl) ?_
    refine lv_bipush (v := (120 : Int32)) hx hb dX12_spellMove_153 (by decide) ?_
    obtain ⟨o1, ho, hf⟩ := m_clE hf
    refine m_callVv X hM (c_spell ho) gX12_spellMove_X12_spell rfl ⟨rfl, rfl⟩ hd_spell ⟨Nat.le_of_ble_eq_true rfl, Nat.le_of_ble_eq_true rfl⟩ rfl hl.1 rfl (Nat.le_of_ble_eq_true rfl) dX12_spellMove_155 (fun H locs hM => ?_)
    clear ho
    exact w_spellMove_158 X hret hf hM (lv_sub hl [0, 2, 3] rfl)
noncomputable def f_spellMove_130 (x2 : Int32) (x3 : Int32) (x4 : Int32) (x5 : Int32) (x6 : Int32) (I : Nat → Int32) (A : Nat → Nat → Int32) : Option (Int32 × MS) :=
  m_if (x2 ≤ (1 : Int32)) (
  f_spellMove_148 x3 x5 x6 I A
  ) (
  m_bnd (x4 / (8 : Int32)) (fun v1 =>
  m_bnd ((49 : Int32) + v1) (fun v2 =>
  m_bnd ((v2.toUInt32 % 65536).toInt32) (fun v3 =>
  m_cl (f_spell v3 I A) (fun r4 Ic4 Ac4 =>
  f_spellMove_148 x3 x5 x6 Ic4 Ac4))))
  )

set_option maxRecDepth 100000 in
set_option maxHeartbeats 4000000 in
theorem w_spellMove_130 {p : Program} {l : Launch} {e : Env} {s : State} {m : MethodId} {args : Array Value} {below : List Frame} {meth : Method} {c : Code} {Q : State → Prop} {D : va_G} {cy ci : ClassId} {h : Nat → Nat} {A0 : Nat → Prop} {o : Int32 × MS} (X : CallFix p m c cX12_spellMove 8 s args wsX12_spellMove RX12) (hret : mRv p l e ({ frames := 2, cells := 0, slots := 0, locals := 43 } : Room) s m args below meth c Q cX12_spellMove D cy ci h A0 o) {x2 : Int32} {x3 : Int32} {x4 : Int32} {x5 : Int32} {x6 : Int32} {I : Nat → Int32} {A : Nat → Nat → Int32} {H : Heap} {locs : List Loc} {ls : Array Slot} (hf : f_spellMove_130 x2 x3 x4 x5 x6 I A = some o) (hM : mH D cy ci h A0 s H locs I A) (hl : lv_has ls 8 [(0, .ref (h 0)), (2, .int x2), (3, .int x3), (4, .int x4), (5, .int x5), (6, .int x6)]) : W p l e ({ frames := 2, cells := 0, slots := 0, locals := 43 } : Room) s m args below meth c H locs 0 0 Q (F0 m 130 ls []) := by
  obtain ⟨hx, hb, hml, hown, hts⟩ := id X
  unfold f_spellMove_130 at hf
  refine lv_iload_n hx hb dX12_spellMove_130 rfl (lv_at hl 1 rfl) ?_
  refine lv_iconst (v := (1 : Int32)) hx hb dX12_spellMove_131 (by decide) ?_
  refine lv_icmp_le (tgt := 148) hx hb dX12_spellMove_132 (by decide) (fun cc1 => ?_) (fun cc1 => ?_)
  · replace hf := m_ifT hf cc1
    exact w_spellMove_148 X hret hf hM (lv_sub hl [0, 2, 4, 5] rfl)
  · replace hf := m_ifF hf cc1
    refine lv_aload_n hx hb dX12_spellMove_135 rfl (lv_at hl 0 rfl) ?_
    refine lv_bipush (v := (49 : Int32)) hx hb dX12_spellMove_136 (by decide) ?_
    refine lv_iload hx hb dX12_spellMove_138 (lv_at hl 3 rfl) ?_
    refine lv_bipush (v := (8 : Int32)) hx hb dX12_spellMove_140 (by decide) ?_
    refine lv_idiv hx hb dX12_spellMove_142 (by decide) ?_
    obtain ⟨v1, ev, hf⟩ := m_bndE hf
    refine m_top ev ?_
    clear ev
    refine lv_iadd hx hb dX12_spellMove_143 ?_
    obtain ⟨v2, ev, hf⟩ := m_bndE hf
    refine m_top ev ?_
    clear ev
    refine lv_i2c (v := (v2.toUInt32 % 65536).toInt32) hx hb dX12_spellMove_144 rfl ?_
    obtain ⟨v3, ev, hf⟩ := m_bndE hf
    refine m_top ev ?_
    clear ev
    obtain ⟨o4, ho, hf⟩ := m_clE hf
    refine m_callVv X hM (c_spell ho) gX12_spellMove_X12_spell rfl ⟨rfl, rfl⟩ hd_spell ⟨Nat.le_of_ble_eq_true rfl, Nat.le_of_ble_eq_true rfl⟩ rfl hl.1 rfl (Nat.le_of_ble_eq_true rfl) dX12_spellMove_145 (fun H locs hM => ?_)
    clear ho
    exact w_spellMove_148 X hret hf hM (lv_sub hl [0, 2, 4, 5] rfl)
noncomputable def f_spellMove_110 (x2 : Int32) (x3 : Int32) (x4 : Int32) (x5 : Int32) (x6 : Int32) (I : Nat → Int32) (A : Nat → Nat → Int32) : Option (Int32 × MS) :=
  m_bnd (x2 - x2 / (2 : Int32) * (2 : Int32)) (fun v1 =>
  m_if (v1 = (1 : Int32)) (
  m_bnd (x4 - x4 / (8 : Int32) * (8 : Int32)) (fun v2 =>
  m_bnd ((97 : Int32) + v2) (fun v3 =>
  m_bnd ((v3.toUInt32 % 65536).toInt32) (fun v4 =>
  m_cl (f_spell v4 I A) (fun r5 Ic5 Ac5 =>
  f_spellMove_130 x2 x3 x4 x5 x6 Ic5 Ac5))))
  ) (
  f_spellMove_130 x2 x3 x4 x5 x6 I A
  ))

set_option maxRecDepth 100000 in
set_option maxHeartbeats 4000000 in
theorem w_spellMove_110 {p : Program} {l : Launch} {e : Env} {s : State} {m : MethodId} {args : Array Value} {below : List Frame} {meth : Method} {c : Code} {Q : State → Prop} {D : va_G} {cy ci : ClassId} {h : Nat → Nat} {A0 : Nat → Prop} {o : Int32 × MS} (X : CallFix p m c cX12_spellMove 8 s args wsX12_spellMove RX12) (hret : mRv p l e ({ frames := 2, cells := 0, slots := 0, locals := 43 } : Room) s m args below meth c Q cX12_spellMove D cy ci h A0 o) {x2 : Int32} {x3 : Int32} {x4 : Int32} {x5 : Int32} {x6 : Int32} {I : Nat → Int32} {A : Nat → Nat → Int32} {H : Heap} {locs : List Loc} {ls : Array Slot} (hf : f_spellMove_110 x2 x3 x4 x5 x6 I A = some o) (hM : mH D cy ci h A0 s H locs I A) (hl : lv_has ls 8 [(0, .ref (h 0)), (2, .int x2), (3, .int x3), (4, .int x4), (5, .int x5), (6, .int x6)]) : W p l e ({ frames := 2, cells := 0, slots := 0, locals := 43 } : Room) s m args below meth c H locs 0 0 Q (F0 m 110 ls []) := by
  obtain ⟨hx, hb, hml, hown, hts⟩ := id X
  unfold f_spellMove_110 at hf
  refine lv_iload_n hx hb dX12_spellMove_110 rfl (lv_at hl 1 rfl) ?_
  refine lv_iconst (v := (2 : Int32)) hx hb dX12_spellMove_111 (by decide) ?_
  refine lv_irem hx hb dX12_spellMove_112 (by decide) ?_
  obtain ⟨v1, ev, hf⟩ := m_bndE hf
  refine m_top ev ?_
  clear ev
  refine lv_iconst (v := (1 : Int32)) hx hb dX12_spellMove_113 (by decide) ?_
  refine lv_icmp_ne (tgt := 130) hx hb dX12_spellMove_114 (by decide) (fun cc1 => ?_) (fun cc1 => ?_)
  · replace hf := m_ifF hf cc1
    exact w_spellMove_130 X hret hf hM (lv_sub hl [0, 1, 2, 3, 4, 5] rfl)
  · replace hf := m_ifT hf cc1
    refine lv_aload_n hx hb dX12_spellMove_117 rfl (lv_at hl 0 rfl) ?_
    refine lv_bipush (v := (97 : Int32)) hx hb dX12_spellMove_118 (by decide) ?_
    refine lv_iload hx hb dX12_spellMove_120 (lv_at hl 3 rfl) ?_
    refine lv_bipush (v := (8 : Int32)) hx hb dX12_spellMove_122 (by decide) ?_
    refine lv_irem hx hb dX12_spellMove_124 (by decide) ?_
    obtain ⟨v2, ev, hf⟩ := m_bndE hf
    refine m_top ev ?_
    clear ev
    refine lv_iadd hx hb dX12_spellMove_125 ?_
    obtain ⟨v3, ev, hf⟩ := m_bndE hf
    refine m_top ev ?_
    clear ev
    refine lv_i2c (v := (v3.toUInt32 % 65536).toInt32) hx hb dX12_spellMove_126 rfl ?_
    obtain ⟨v4, ev, hf⟩ := m_bndE hf
    refine m_top ev ?_
    clear ev
    obtain ⟨o5, ho, hf⟩ := m_clE hf
    refine m_callVv X hM (c_spell ho) gX12_spellMove_X12_spell rfl ⟨rfl, rfl⟩ hd_spell ⟨Nat.le_of_ble_eq_true rfl, Nat.le_of_ble_eq_true rfl⟩ rfl hl.1 rfl (Nat.le_of_ble_eq_true rfl) dX12_spellMove_127 (fun H locs hM => ?_)
    clear ho
    exact w_spellMove_130 X hret hf hM (lv_sub hl [0, 1, 2, 3, 4, 5] rfl)
noncomputable def f_spellMove_66 (self38 : Int32 → Int32 → Int32 → (Nat → Int32) → (Nat → Nat → Int32) → Option (Int32 × MS)) (x4 : Int32) (x5 : Int32) (x7 : Int32) (I : Nat → Int32) (A : Nat → Nat → Int32) : Option (Int32 × MS) :=
  m_cl (f_spell (79 : Int32) I A) (fun r1 Ic1 Ac1 =>
  m_bnd (x7 + (1 : Int32)) (fun v2 =>
  self38 x4 x5 v2 Ic1 Ac1))

set_option maxRecDepth 100000 in
set_option maxHeartbeats 4000000 in
theorem w_spellMove_66 {p : Program} {l : Launch} {e : Env} {s : State} {m : MethodId} {args : Array Value} {below : List Frame} {meth : Method} {c : Code} {Q : State → Prop} {D : va_G} {cy ci : ClassId} {h : Nat → Nat} {A0 : Nat → Prop} {o : Int32 × MS} (X : CallFix p m c cX12_spellMove 8 s args wsX12_spellMove RX12) (hret : mRv p l e ({ frames := 2, cells := 0, slots := 0, locals := 43 } : Room) s m args below meth c Q cX12_spellMove D cy ci h A0 o) {self38 : Int32 → Int32 → Int32 → (Nat → Int32) → (Nat → Nat → Int32) → Option (Int32 × MS)} (hself38 : ∀ (x4 : Int32) (x5 : Int32) (x7 : Int32) (I : Nat → Int32) (A : Nat → Nat → Int32) (H : Heap) (locs : List Loc) (ls : Array Slot), self38 x4 x5 x7 I A = some o → mH D cy ci h A0 s H locs I A → lv_has ls 8 [(0, .ref (h 0)), (4, .int x4), (5, .int x5), (7, .int x7)] → W p l e ({ frames := 2, cells := 0, slots := 0, locals := 43 } : Room) s m args below meth c H locs 0 0 Q (F0 m 38 ls [])) {x4 : Int32} {x5 : Int32} {x7 : Int32} {I : Nat → Int32} {A : Nat → Nat → Int32} {H : Heap} {locs : List Loc} {ls : Array Slot} (hf : f_spellMove_66 self38 x4 x5 x7 I A = some o) (hM : mH D cy ci h A0 s H locs I A) (hl : lv_has ls 8 [(0, .ref (h 0)), (4, .int x4), (5, .int x5), (7, .int x7)]) : W p l e ({ frames := 2, cells := 0, slots := 0, locals := 43 } : Room) s m args below meth c H locs 0 0 Q (F0 m 66 ls []) := by
  obtain ⟨hx, hb, hml, hown, hts⟩ := id X
  unfold f_spellMove_66 at hf
  refine lv_aload_n hx hb dX12_spellMove_66 rfl (lv_at hl 0 rfl) ?_
  refine lv_bipush (v := (79 : Int32)) hx hb dX12_spellMove_67 (by decide) ?_
  obtain ⟨o1, ho, hf⟩ := m_clE hf
  refine m_callVv X hM (c_spell ho) gX12_spellMove_X12_spell rfl ⟨rfl, rfl⟩ hd_spell ⟨Nat.le_of_ble_eq_true rfl, Nat.le_of_ble_eq_true rfl⟩ rfl hl.1 rfl (Nat.le_of_ble_eq_true rfl) dX12_spellMove_69 (fun H locs hM => ?_)
  clear ho
  obtain ⟨v2, ev, hf⟩ := m_bndE hf
  refine lv_iinc (v := v2) (lv' := [(7, .int v2), (0, .ref (h 0)), (4, .int x4), (5, .int x5)]) hx hb dX12_spellMove_72 hl (k := 3) rfl (by rw [ev]; rfl) (by decide) rfl (fun ls hl => ?_)
  clear ev
  refine lv_goto (tgt := 38) hx hb dX12_spellMove_75 (by decide) ?_
  exact hself38 _ _ _ _ _ _ _ _ hf hM (lv_sub hl [1, 2, 3, 0] rfl)
noncomputable def f_spellMove_52 (self38 : Int32 → Int32 → Int32 → (Nat → Int32) → (Nat → Nat → Int32) → Option (Int32 × MS)) (x4 : Int32) (x5 : Int32) (x7 : Int32) (t0 : Int32) (t1 : Int32) (I : Nat → Int32) (A : Nat → Nat → Int32) : Option (Int32 × MS) :=
  m_if (t0 ≤ t1) (
  some (0, (I, A))
  ) (
  m_if (x7 ≤ 0) (
  f_spellMove_66 self38 x4 x5 x7 I A
  ) (
  m_cl (f_spell (45 : Int32) I A) (fun r1 Ic1 Ac1 =>
  f_spellMove_66 self38 x4 x5 x7 Ic1 Ac1)
  )
  )

set_option maxRecDepth 100000 in
set_option maxHeartbeats 4000000 in
theorem w_spellMove_52 {p : Program} {l : Launch} {e : Env} {s : State} {m : MethodId} {args : Array Value} {below : List Frame} {meth : Method} {c : Code} {Q : State → Prop} {D : va_G} {cy ci : ClassId} {h : Nat → Nat} {A0 : Nat → Prop} {o : Int32 × MS} (X : CallFix p m c cX12_spellMove 8 s args wsX12_spellMove RX12) (hret : mRv p l e ({ frames := 2, cells := 0, slots := 0, locals := 43 } : Room) s m args below meth c Q cX12_spellMove D cy ci h A0 o) {self38 : Int32 → Int32 → Int32 → (Nat → Int32) → (Nat → Nat → Int32) → Option (Int32 × MS)} (hself38 : ∀ (x4 : Int32) (x5 : Int32) (x7 : Int32) (I : Nat → Int32) (A : Nat → Nat → Int32) (H : Heap) (locs : List Loc) (ls : Array Slot), self38 x4 x5 x7 I A = some o → mH D cy ci h A0 s H locs I A → lv_has ls 8 [(0, .ref (h 0)), (4, .int x4), (5, .int x5), (7, .int x7)] → W p l e ({ frames := 2, cells := 0, slots := 0, locals := 43 } : Room) s m args below meth c H locs 0 0 Q (F0 m 38 ls [])) {x4 : Int32} {x5 : Int32} {x7 : Int32} {t0 : Int32} {t1 : Int32} {I : Nat → Int32} {A : Nat → Nat → Int32} {H : Heap} {locs : List Loc} {ls : Array Slot} (hf : f_spellMove_52 self38 x4 x5 x7 t0 t1 I A = some o) (hM : mH D cy ci h A0 s H locs I A) (hl : lv_has ls 8 [(0, .ref (h 0)), (4, .int x4), (5, .int x5), (7, .int x7)]) : W p l e ({ frames := 2, cells := 0, slots := 0, locals := 43 } : Room) s m args below meth c H locs 0 0 Q (F0 m 52 ls [.int t0, .int t1]) := by
  obtain ⟨hx, hb, hml, hown, hts⟩ := id X
  unfold f_spellMove_52 at hf
  refine lv_icmp_ge (tgt := 78) hx hb dX12_spellMove_52 (by decide) (fun cc1 => ?_) (fun cc1 => ?_)
  · replace hf := m_ifT hf cc1
    cases hf
    exact hret H locs _ ls hM dX12_spellMove_78
  · replace hf := m_ifF hf cc1
    refine lv_iload hx hb dX12_spellMove_55 (lv_at hl 3 rfl) ?_
    refine lv_if_le (tgt := 66) hx hb dX12_spellMove_57 (by decide) (fun cc1 => ?_) (fun cc1 => ?_)
    · replace hf := m_ifT hf cc1
      exact w_spellMove_66 X hret hself38 hf hM (lv_sub hl [0, 1, 2, 3] rfl)
    · replace hf := m_ifF hf cc1
      refine lv_aload_n hx hb dX12_spellMove_60 rfl (lv_at hl 0 rfl) ?_
      refine lv_bipush (v := (45 : Int32)) hx hb dX12_spellMove_61 (by decide) ?_
      obtain ⟨o1, ho, hf⟩ := m_clE hf
      refine m_callVv X hM (c_spell ho) gX12_spellMove_X12_spell rfl ⟨rfl, rfl⟩ hd_spell ⟨Nat.le_of_ble_eq_true rfl, Nat.le_of_ble_eq_true rfl⟩ rfl hl.1 rfl (Nat.le_of_ble_eq_true rfl) dX12_spellMove_63 (fun H locs hM => ?_)
      clear ho
      exact w_spellMove_66 X hret hself38 hf hM (lv_sub hl [0, 1, 2, 3] rfl)
noncomputable def f_spellMove_38s (self38 : Int32 → Int32 → Int32 → (Nat → Int32) → (Nat → Nat → Int32) → Option (Int32 × MS)) (x4 : Int32) (x5 : Int32) (x7 : Int32) (I : Nat → Int32) (A : Nat → Nat → Int32) : Option (Int32 × MS) :=
  m_if (x5 ≤ x4) (
  f_spellMove_52 self38 x4 x5 x7 (3 : Int32) x7 I A
  ) (
  f_spellMove_52 self38 x4 x5 x7 (2 : Int32) x7 I A
  )

set_option maxRecDepth 100000 in
set_option maxHeartbeats 4000000 in
theorem ws_spellMove_38 {p : Program} {l : Launch} {e : Env} {s : State} {m : MethodId} {args : Array Value} {below : List Frame} {meth : Method} {c : Code} {Q : State → Prop} {D : va_G} {cy ci : ClassId} {h : Nat → Nat} {A0 : Nat → Prop} {o : Int32 × MS} (X : CallFix p m c cX12_spellMove 8 s args wsX12_spellMove RX12) (hret : mRv p l e ({ frames := 2, cells := 0, slots := 0, locals := 43 } : Room) s m args below meth c Q cX12_spellMove D cy ci h A0 o) {self38 : Int32 → Int32 → Int32 → (Nat → Int32) → (Nat → Nat → Int32) → Option (Int32 × MS)} (hself38 : ∀ (x4 : Int32) (x5 : Int32) (x7 : Int32) (I : Nat → Int32) (A : Nat → Nat → Int32) (H : Heap) (locs : List Loc) (ls : Array Slot), self38 x4 x5 x7 I A = some o → mH D cy ci h A0 s H locs I A → lv_has ls 8 [(0, .ref (h 0)), (4, .int x4), (5, .int x5), (7, .int x7)] → W p l e ({ frames := 2, cells := 0, slots := 0, locals := 43 } : Room) s m args below meth c H locs 0 0 Q (F0 m 38 ls [])) {x4 : Int32} {x5 : Int32} {x7 : Int32} {I : Nat → Int32} {A : Nat → Nat → Int32} {H : Heap} {locs : List Loc} {ls : Array Slot} (hf : f_spellMove_38s self38 x4 x5 x7 I A = some o) (hM : mH D cy ci h A0 s H locs I A) (hl : lv_has ls 8 [(0, .ref (h 0)), (4, .int x4), (5, .int x5), (7, .int x7)]) : W p l e ({ frames := 2, cells := 0, slots := 0, locals := 43 } : Room) s m args below meth c H locs 0 0 Q (F0 m 38 ls []) := by
  obtain ⟨hx, hb, hml, hown, hts⟩ := id X
  unfold f_spellMove_38s at hf
  refine lv_iload hx hb dX12_spellMove_38 (lv_at hl 3 rfl) ?_
  refine lv_iload hx hb dX12_spellMove_40 (lv_at hl 2 rfl) ?_
  refine lv_iload hx hb dX12_spellMove_42 (lv_at hl 1 rfl) ?_
  refine lv_icmp_le (tgt := 51) hx hb dX12_spellMove_44 (by decide) (fun cc1 => ?_) (fun cc1 => ?_)
  · replace hf := m_ifT hf cc1
    refine lv_iconst (v := (3 : Int32)) hx hb dX12_spellMove_51 (by decide) ?_
    exact w_spellMove_52 X hret hself38 hf hM (lv_sub hl [0, 1, 2, 3] rfl)
  · replace hf := m_ifF hf cc1
    refine lv_iconst (v := (2 : Int32)) hx hb dX12_spellMove_47 (by decide) ?_
    refine lv_goto (tgt := 52) hx hb dX12_spellMove_48 (by decide) ?_
    exact w_spellMove_52 X hret hself38 hf hM (lv_sub hl [0, 1, 2, 3] rfl)
noncomputable def f_spellMove_38 : Nat → Int32 → Int32 → Int32 → (Nat → Int32) → (Nat → Nat → Int32) → Option (Int32 × MS)
  | 0 => fun _ _ _ _ _ => none
  | n + 1 => f_spellMove_38s (f_spellMove_38 n)
theorem w_spellMove_38 {p : Program} {l : Launch} {e : Env} {s : State} {m : MethodId} {args : Array Value} {below : List Frame} {meth : Method} {c : Code} {Q : State → Prop} {D : va_G} {cy ci : ClassId} {h : Nat → Nat} {A0 : Nat → Prop} {o : Int32 × MS} (X : CallFix p m c cX12_spellMove 8 s args wsX12_spellMove RX12) (hret : mRv p l e ({ frames := 2, cells := 0, slots := 0, locals := 43 } : Room) s m args below meth c Q cX12_spellMove D cy ci h A0 o) (n : Nat) : ∀ (x4 : Int32) (x5 : Int32) (x7 : Int32) (I : Nat → Int32) (A : Nat → Nat → Int32) (H : Heap) (locs : List Loc) (ls : Array Slot), f_spellMove_38 n x4 x5 x7 I A = some o → mH D cy ci h A0 s H locs I A → lv_has ls 8 [(0, .ref (h 0)), (4, .int x4), (5, .int x5), (7, .int x7)] → W p l e ({ frames := 2, cells := 0, slots := 0, locals := 43 } : Room) s m args below meth c H locs 0 0 Q (F0 m 38 ls []) := by
  induction n with
  | zero => intro x4 x5 x7 I A H locs ls hf; cases hf
  | succ n ih => intro x4 x5 x7 I A H locs ls hf hM hl; exact ws_spellMove_38 X hret (self38 := f_spellMove_38 n) ih hf hM hl
noncomputable def f_spellMove_0 (x1 : Int32) (x2 : Int32) (x3 : Int32) (I : Nat → Int32) (A : Nat → Nat → Int32) : Option (Int32 × MS) :=
  m_bnd (x1 - x1 / (64 : Int32) * (64 : Int32)) (fun v1 =>
  m_bnd (x1 / (64 : Int32)) (fun v2 =>
  m_bnd (v2 - v2 / (64 : Int32) * (64 : Int32)) (fun v3 =>
  m_bnd (x1 / (4096 : Int32)) (fun v4 =>
  m_bnd (upd I 36 (0 : Int32)) (fun I5 =>
  m_cl (f_isCastling x1 I5 A) (fun r6 Ic6 Ac6 =>
  m_if (r6 = 0) (
  m_chk (¬ (v1 < 0 ∨ 64 ≤ (v1).toNatClampNeg)) (
  m_bnd (Ac6 24 (v1).toNatClampNeg) (fun v7 =>
  m_cl (f_kind v7 Ic6 Ac6) (fun r8 Ic8 Ac8 =>
  m_if (r8 = (1 : Int32)) (
  f_spellMove_110 x2 x3 v1 v3 v4 Ic8 Ac8
  ) (
  m_chk (¬ (v1 < 0 ∨ 64 ≤ (v1).toNatClampNeg)) (
  m_bnd (Ac8 24 (v1).toNatClampNeg) (fun v9 =>
  m_cl (f_kind v9 Ic8 Ac8) (fun r10 Ic10 Ac10 =>
  m_cl (f_letter r10 Ic10 Ac10) (fun r11 Ic11 Ac11 =>
  m_cl (f_spell r11 Ic11 Ac11) (fun r12 Ic12 Ac12 =>
  f_spellMove_110 x2 x3 v1 v3 v4 Ic12 Ac12)))))
  ))))
  ) (
  f_spellMove_38 mFuel v1 v3 (0 : Int32) Ic6 Ac6
  )))))))

set_option maxRecDepth 100000 in
set_option maxHeartbeats 4000000 in
theorem w_spellMove_0 {p : Program} {l : Launch} {e : Env} {s : State} {m : MethodId} {args : Array Value} {below : List Frame} {meth : Method} {c : Code} {Q : State → Prop} {D : va_G} {cy ci : ClassId} {h : Nat → Nat} {A0 : Nat → Prop} {o : Int32 × MS} (X : CallFix p m c cX12_spellMove 8 s args wsX12_spellMove RX12) (hret : mRv p l e ({ frames := 2, cells := 0, slots := 0, locals := 43 } : Room) s m args below meth c Q cX12_spellMove D cy ci h A0 o) {x1 : Int32} {x2 : Int32} {x3 : Int32} {I : Nat → Int32} {A : Nat → Nat → Int32} {H : Heap} {locs : List Loc} {ls : Array Slot} (hf : f_spellMove_0 x1 x2 x3 I A = some o) (hM : mH D cy ci h A0 s H locs I A) (hl : lv_has ls 8 [(0, .ref (h 0)), (1, .int x1), (2, .int x2), (3, .int x3)]) : W p l e ({ frames := 2, cells := 0, slots := 0, locals := 43 } : Room) s m args below meth c H locs 0 0 Q (F0 m 0 ls []) := by
  obtain ⟨hx, hb, hml, hown, hts⟩ := id X
  unfold f_spellMove_0 at hf
  refine lv_iload_n hx hb dX12_spellMove_0 rfl (lv_at hl 1 rfl) ?_
  refine lv_bipush (v := (64 : Int32)) hx hb dX12_spellMove_1 (by decide) ?_
  refine lv_irem hx hb dX12_spellMove_3 (by decide) ?_
  obtain ⟨v1, ev, hf⟩ := m_bndE hf
  refine m_top ev ?_
  clear ev
  refine lv_istore (lv' := [(4, .int v1), (0, .ref (h 0)), (1, .int x1), (2, .int x2), (3, .int x3)]) hx hb dX12_spellMove_4 hl (by decide) rfl (fun ls hl => ?_)
  refine lv_iload_n hx hb dX12_spellMove_6 rfl (lv_at hl 2 rfl) ?_
  refine lv_bipush (v := (64 : Int32)) hx hb dX12_spellMove_7 (by decide) ?_
  refine lv_idiv hx hb dX12_spellMove_9 (by decide) ?_
  obtain ⟨v2, ev, hf⟩ := m_bndE hf
  refine m_top ev ?_
  clear ev
  refine lv_bipush (v := (64 : Int32)) hx hb dX12_spellMove_10 (by decide) ?_
  refine lv_irem hx hb dX12_spellMove_12 (by decide) ?_
  obtain ⟨v3, ev, hf⟩ := m_bndE hf
  refine m_top ev ?_
  clear ev
  refine lv_istore (lv' := [(5, .int v3), (4, .int v1), (0, .ref (h 0)), (1, .int x1), (2, .int x2), (3, .int x3)]) hx hb dX12_spellMove_13 hl (by decide) rfl (fun ls hl => ?_)
  refine lv_iload_n hx hb dX12_spellMove_15 rfl (lv_at hl 3 rfl) ?_
  refine lv_sipush (v := (4096 : Int32)) hx hb dX12_spellMove_16 (by decide) ?_
  refine lv_idiv hx hb dX12_spellMove_19 (by decide) ?_
  obtain ⟨v4, ev, hf⟩ := m_bndE hf
  refine m_top ev ?_
  clear ev
  refine lv_istore (lv' := [(6, .int v4), (5, .int v3), (4, .int v1), (0, .ref (h 0)), (1, .int x1), (2, .int x2), (3, .int x3)]) hx hb dX12_spellMove_20 hl (by decide) rfl (fun ls hl => ?_)
  refine lv_aload_n hx hb dX12_spellMove_22 rfl (lv_at hl 3 rfl) ?_
  refine lv_iconst (v := (0 : Int32)) hx hb dX12_spellMove_23 (by decide) ?_
  refine m_put X hw_spellMove hM 36 (by decide) fl_spellMove_36 mi_36 rfl (tyX12_ok 36 (by decide)) dX12_spellMove_24 (fun H locs hM => ?_)
  obtain ⟨I5, ev, hf⟩ := m_bndE hf
  replace hM := m_hI hM ev
  clear ev
  refine lv_aload_n hx hb dX12_spellMove_27 rfl (lv_at hl 3 rfl) ?_
  refine lv_iload_n hx hb dX12_spellMove_28 rfl (lv_at hl 4 rfl) ?_
  obtain ⟨o6, ho, hf⟩ := m_clE hf
  refine m_callVi X hM (c_isCastling ho) gX12_spellMove_X12_isCastling rfl ⟨rfl, rfl⟩ hd_isCastling ⟨Nat.le_of_ble_eq_true rfl, Nat.le_of_ble_eq_true rfl⟩ rfl hl.1 rfl (Nat.le_of_ble_eq_true rfl) dX12_spellMove_29 (fun H locs hM => ?_)
  clear ho
  refine lv_if_eq (tgt := 79) hx hb dX12_spellMove_32 (by decide) (fun cc1 => ?_) (fun cc1 => ?_)
  · replace hf := m_ifT hf cc1
    refine lv_aload_n hx hb dX12_spellMove_79 rfl (lv_at hl 3 rfl) ?_
    refine m_get (v := .ref (h 24)) X hw_spellMove hM 24 (by decide) fl_spellMove_24 rfl dX12_spellMove_80 ?_
    refine lv_iload hx hb dX12_spellMove_83 (lv_at hl 2 rfl) ?_
    obtain ⟨cd, hf⟩ := m_chkE hf
    refine m_iald X hM 24 20 64 rfl cd dX12_spellMove_85 ?_
    clear cd
    obtain ⟨v7, ev, hf⟩ := m_bndE hf
    refine m_top ev ?_
    clear ev
    obtain ⟨o8, ho, hf⟩ := m_clE hf
    refine m_callSi X hM (c_kind ho) gX12_spellMove_X12_kind rfl ⟨rfl, rfl⟩ hd_kind ⟨Nat.le_of_ble_eq_true rfl, Nat.le_of_ble_eq_true rfl⟩ rfl hl.1 rfl (Nat.le_of_ble_eq_true rfl) dX12_spellMove_86 (fun H locs hM => ?_)
    clear ho
    refine lv_iconst (v := (1 : Int32)) hx hb dX12_spellMove_89 (by decide) ?_
    refine lv_icmp_eq (tgt := 110) hx hb dX12_spellMove_90 (by decide) (fun cc1 => ?_) (fun cc1 => ?_)
    · replace hf := m_ifT hf cc1
      exact w_spellMove_110 X hret hf hM (lv_sub hl [3, 5, 6, 2, 1, 0] rfl)
    · replace hf := m_ifF hf cc1
      refine lv_aload_n hx hb dX12_spellMove_93 rfl (lv_at hl 3 rfl) ?_
      refine lv_aload_n hx hb dX12_spellMove_94 rfl (lv_at hl 3 rfl) ?_
      refine m_get (v := .ref (h 24)) X hw_spellMove hM 24 (by decide) fl_spellMove_24 rfl dX12_spellMove_95 ?_
      refine lv_iload hx hb dX12_spellMove_98 (lv_at hl 2 rfl) ?_
      obtain ⟨cd, hf⟩ := m_chkE hf
      refine m_iald X hM 24 20 64 rfl cd dX12_spellMove_100 ?_
      clear cd
      obtain ⟨v9, ev, hf⟩ := m_bndE hf
      refine m_top ev ?_
      clear ev
      obtain ⟨o10, ho, hf⟩ := m_clE hf
      refine m_callSi X hM (c_kind ho) gX12_spellMove_X12_kind rfl ⟨rfl, rfl⟩ hd_kind ⟨Nat.le_of_ble_eq_true rfl, Nat.le_of_ble_eq_true rfl⟩ rfl hl.1 rfl (Nat.le_of_ble_eq_true rfl) dX12_spellMove_101 (fun H locs hM => ?_)
      clear ho
      obtain ⟨o11, ho, hf⟩ := m_clE hf
      refine m_callSi X hM (c_letter ho) gX12_spellMove_X12_letter rfl ⟨rfl, rfl⟩ hd_letter ⟨Nat.le_of_ble_eq_true rfl, Nat.le_of_ble_eq_true rfl⟩ rfl hl.1 rfl (Nat.le_of_ble_eq_true rfl) dX12_spellMove_104 (fun H locs hM => ?_)
      clear ho
      obtain ⟨o12, ho, hf⟩ := m_clE hf
      refine m_callVv X hM (c_spell ho) gX12_spellMove_X12_spell rfl ⟨rfl, rfl⟩ hd_spell ⟨Nat.le_of_ble_eq_true rfl, Nat.le_of_ble_eq_true rfl⟩ rfl hl.1 rfl (Nat.le_of_ble_eq_true rfl) dX12_spellMove_107 (fun H locs hM => ?_)
      clear ho
      exact w_spellMove_110 X hret hf hM (lv_sub hl [3, 5, 6, 2, 1, 0] rfl)
  · replace hf := m_ifF hf cc1
    refine lv_iconst (v := (0 : Int32)) hx hb dX12_spellMove_35 (by decide) ?_
    refine lv_istore (lv' := [(7, .int (0 : Int32)), (6, .int v4), (5, .int v3), (4, .int v1), (0, .ref (h 0)), (1, .int x1), (2, .int x2), (3, .int x3)]) hx hb dX12_spellMove_36 hl (by decide) rfl (fun ls hl => ?_)
    exact w_spellMove_38 X hret _ _ _ _ _ _ _ _ _ hf hM (lv_sub hl [4, 3, 2, 0] rfl)
noncomputable def f_spellMove (x1 : Int32) (x2 : Int32) (x3 : Int32) (I : Nat → Int32) (A : Nat → Nat → Int32) : Option (Int32 × MS) := f_spellMove_0 x1 x2 x3 I A
theorem c_spellMove {l : Launch} {D : va_G} {cy ci : ClassId} {h : Nat → Nat} {x1 : Int32} {x2 : Int32} {x3 : Int32} {I : Nat → Int32} {A : Nat → Nat → Int32} {o : Int32 × MS} (hf : f_spellMove x1 x2 x3 I A = some o) : mMv l yX12_spellMove wsX12_spellMove ({ frames := 2, cells := 0, slots := 0, locals := 43 } : Room) [.ref (h 0), .int x1, .int x2, .int x3] D cy ci h I A o :=
  m_entryV (cc := cX12_spellMove) (maxL := 8) (by decide) rfl rfl (Nat.le_of_ble_eq_true rfl) (fun p e s m args below meth c A0 Q H locs ls X hret hM hl => w_spellMove_0 X hret hf hM (lv_sub hl [0, 1, 2, 3] rfl))
theorem hw_isSafeOnce : ∀ w ∈ wsX120, w ∈ wsX12_isSafeOnce := by decide +kernel
theorem fl_isSafeOnce_24 : Cond.fieldLink RX12 70 "MoveTextsModel" "men" "[I" ∈ wsX12_isSafeOnce := by decide +kernel
theorem fl_isSafeOnce_25 : Cond.fieldLink RX12 121 "MoveTextsModel" "side" "I" ∈ wsX12_isSafeOnce := by decide +kernel
theorem hd_isSafeOnce : yX12_isSafeOnce.cls = RX12 ∧ yX12_isSafeOnce.cls ≠ "java/lang/invoke/MethodHandle" ∧ yX12_isSafeOnce.cls ≠ "java/lang/invoke/VarHandle" ∧ (parseMethodDescriptor yX12_isSafeOnce.desc).map (fun d => d.parameters.length) = some 1 := by decide +kernel
noncomputable def f_isSafeOnce_169 (x9 : Int32) (I : Nat → Int32) (A : Nat → Nat → Int32) : Option (Int32 × MS) :=
  m_chk (vp_nar .boolean x9 = x9) (some (x9, (I, A)))

set_option maxRecDepth 100000 in
set_option maxHeartbeats 4000000 in
theorem w_isSafeOnce_169 {p : Program} {l : Launch} {e : Env} {s : State} {m : MethodId} {args : Array Value} {below : List Frame} {meth : Method} {c : Code} {Q : State → Prop} {D : va_G} {cy ci : ClassId} {h : Nat → Nat} {A0 : Nat → Prop} {o : Int32 × MS} (X : CallFix p m c cX12_isSafeOnce 10 s args wsX12_isSafeOnce RX12) (hret : mRi p l e ({ frames := 4, cells := 0, slots := 0, locals := 98 } : Room) s m args below meth c Q cX12_isSafeOnce D cy ci h A0 .boolean o) {x9 : Int32} {I : Nat → Int32} {A : Nat → Nat → Int32} {H : Heap} {locs : List Loc} {ls : Array Slot} (hf : f_isSafeOnce_169 x9 I A = some o) (hM : mH D cy ci h A0 s H locs I A) (hl : lv_has ls 10 [(9, .int x9)]) : W p l e ({ frames := 4, cells := 0, slots := 0, locals := 98 } : Room) s m args below meth c H locs 0 0 Q (F0 m 169 ls []) := by
  obtain ⟨hx, hb, hml, hown, hts⟩ := id X
  unfold f_isSafeOnce_169 at hf
  refine lv_iload hx hb dX12_isSafeOnce_169 (lv_at hl 0 rfl) ?_
  obtain ⟨cd, hf⟩ := m_chkE hf
  cases hf
  exact hret H locs _ ls hM (m_nb cd) dX12_isSafeOnce_171
noncomputable def f_isSafeOnce_137 (x2 : Int32) (x3 : Int32) (x4 : Int32) (x5 : Int32) (x6 : Int32) (x7 : Int32) (x8 : Int32) (t0 : Int32) (I : Nat → Int32) (A : Nat → Nat → Int32) : Option (Int32 × MS) :=
  m_chk (¬ (x2 < 0 ∨ 64 ≤ (x2).toNatClampNeg)) (
  m_bnd (va_up A 24 (upd (A 24) (x2).toNatClampNeg x4)) (fun A1 =>
  m_chk (¬ (x3 < 0 ∨ 64 ≤ (x3).toNatClampNeg)) (
  m_bnd (va_up A1 24 (upd (A1 24) (x3).toNatClampNeg x5)) (fun A2 =>
  m_if (x7 = 0) (
  f_isSafeOnce_169 t0 I A2
  ) (
  m_chk (¬ (x6 < 0 ∨ 64 ≤ (x6).toNatClampNeg)) (
  m_bnd (va_up A2 24 (upd (A2 24) (x6).toNatClampNeg x8)) (fun A3 =>
  f_isSafeOnce_169 t0 I A3))
  )))))

set_option maxRecDepth 100000 in
set_option maxHeartbeats 4000000 in
theorem w_isSafeOnce_137 {p : Program} {l : Launch} {e : Env} {s : State} {m : MethodId} {args : Array Value} {below : List Frame} {meth : Method} {c : Code} {Q : State → Prop} {D : va_G} {cy ci : ClassId} {h : Nat → Nat} {A0 : Nat → Prop} {o : Int32 × MS} (X : CallFix p m c cX12_isSafeOnce 10 s args wsX12_isSafeOnce RX12) (hret : mRi p l e ({ frames := 4, cells := 0, slots := 0, locals := 98 } : Room) s m args below meth c Q cX12_isSafeOnce D cy ci h A0 .boolean o) {x2 : Int32} {x3 : Int32} {x4 : Int32} {x5 : Int32} {x6 : Int32} {x7 : Int32} {x8 : Int32} {t0 : Int32} {I : Nat → Int32} {A : Nat → Nat → Int32} {H : Heap} {locs : List Loc} {ls : Array Slot} (hf : f_isSafeOnce_137 x2 x3 x4 x5 x6 x7 x8 t0 I A = some o) (hM : mH D cy ci h A0 s H locs I A) (hl : lv_has ls 10 [(0, .ref (h 0)), (2, .int x2), (3, .int x3), (4, .int x4), (5, .int x5), (6, .int x6), (7, .int x7), (8, .int x8)]) : W p l e ({ frames := 4, cells := 0, slots := 0, locals := 98 } : Room) s m args below meth c H locs 0 0 Q (F0 m 137 ls [.int t0]) := by
  obtain ⟨hx, hb, hml, hown, hts⟩ := id X
  unfold f_isSafeOnce_137 at hf
  refine lv_istore (lv' := [(9, .int t0), (0, .ref (h 0)), (2, .int x2), (3, .int x3), (4, .int x4), (5, .int x5), (6, .int x6), (7, .int x7), (8, .int x8)]) hx hb dX12_isSafeOnce_137 hl (by decide) rfl (fun ls hl => ?_)
  refine lv_aload_n hx hb dX12_isSafeOnce_139 rfl (lv_at hl 1 rfl) ?_
  refine m_get (v := .ref (h 24)) X hw_isSafeOnce hM 24 (by decide) fl_isSafeOnce_24 rfl dX12_isSafeOnce_140 ?_
  refine lv_iload_n hx hb dX12_isSafeOnce_143 rfl (lv_at hl 2 rfl) ?_
  refine lv_iload hx hb dX12_isSafeOnce_144 (lv_at hl 4 rfl) ?_
  obtain ⟨cd, hf⟩ := m_chkE hf
  refine m_iast X hM 24 20 64 rfl ma_24 cd dX12_isSafeOnce_146 (fun H locs hM => ?_)
  clear cd
  obtain ⟨A1, ev, hf⟩ := m_bndE hf
  replace hM := m_hA hM ev
  clear ev
  refine lv_aload_n hx hb dX12_isSafeOnce_147 rfl (lv_at hl 1 rfl) ?_
  refine m_get (v := .ref (h 24)) X hw_isSafeOnce hM 24 (by decide) fl_isSafeOnce_24 rfl dX12_isSafeOnce_148 ?_
  refine lv_iload_n hx hb dX12_isSafeOnce_151 rfl (lv_at hl 3 rfl) ?_
  refine lv_iload hx hb dX12_isSafeOnce_152 (lv_at hl 5 rfl) ?_
  obtain ⟨cd, hf⟩ := m_chkE hf
  refine m_iast X hM 24 20 64 rfl ma_24 cd dX12_isSafeOnce_154 (fun H locs hM => ?_)
  clear cd
  obtain ⟨A2, ev, hf⟩ := m_bndE hf
  replace hM := m_hA hM ev
  clear ev
  refine lv_iload hx hb dX12_isSafeOnce_155 (lv_at hl 7 rfl) ?_
  refine lv_if_eq (tgt := 169) hx hb dX12_isSafeOnce_157 (by decide) (fun cc1 => ?_) (fun cc1 => ?_)
  · replace hf := m_ifT hf cc1
    exact w_isSafeOnce_169 X hret hf hM (lv_sub hl [0] rfl)
  · replace hf := m_ifF hf cc1
    refine lv_aload_n hx hb dX12_isSafeOnce_160 rfl (lv_at hl 1 rfl) ?_
    refine m_get (v := .ref (h 24)) X hw_isSafeOnce hM 24 (by decide) fl_isSafeOnce_24 rfl dX12_isSafeOnce_161 ?_
    refine lv_iload hx hb dX12_isSafeOnce_164 (lv_at hl 6 rfl) ?_
    refine lv_iload hx hb dX12_isSafeOnce_166 (lv_at hl 8 rfl) ?_
    obtain ⟨cd, hf⟩ := m_chkE hf
    refine m_iast X hM 24 20 64 rfl ma_24 cd dX12_isSafeOnce_168 (fun H locs hM => ?_)
    clear cd
    obtain ⟨A3, ev, hf⟩ := m_bndE hf
    replace hM := m_hA hM ev
    clear ev
    exact w_isSafeOnce_169 X hret hf hM (lv_sub hl [0] rfl)
noncomputable def f_isSafeOnce_121 (x2 : Int32) (x3 : Int32) (x4 : Int32) (x5 : Int32) (x6 : Int32) (x7 : Int32) (x8 : Int32) (I : Nat → Int32) (A : Nat → Nat → Int32) : Option (Int32 × MS) :=
  m_cl (f_isInCheck (I 25) I A) (fun r1 Ic1 Ac1 =>
  m_if (r1 = 0) (
  f_isSafeOnce_137 x2 x3 x4 x5 x6 x7 x8 (1 : Int32) Ic1 Ac1
  ) (
  f_isSafeOnce_137 x2 x3 x4 x5 x6 x7 x8 (0 : Int32) Ic1 Ac1
  ))

set_option maxRecDepth 100000 in
set_option maxHeartbeats 4000000 in
theorem w_isSafeOnce_121 {p : Program} {l : Launch} {e : Env} {s : State} {m : MethodId} {args : Array Value} {below : List Frame} {meth : Method} {c : Code} {Q : State → Prop} {D : va_G} {cy ci : ClassId} {h : Nat → Nat} {A0 : Nat → Prop} {o : Int32 × MS} (X : CallFix p m c cX12_isSafeOnce 10 s args wsX12_isSafeOnce RX12) (hret : mRi p l e ({ frames := 4, cells := 0, slots := 0, locals := 98 } : Room) s m args below meth c Q cX12_isSafeOnce D cy ci h A0 .boolean o) {x2 : Int32} {x3 : Int32} {x4 : Int32} {x5 : Int32} {x6 : Int32} {x7 : Int32} {x8 : Int32} {I : Nat → Int32} {A : Nat → Nat → Int32} {H : Heap} {locs : List Loc} {ls : Array Slot} (hf : f_isSafeOnce_121 x2 x3 x4 x5 x6 x7 x8 I A = some o) (hM : mH D cy ci h A0 s H locs I A) (hl : lv_has ls 10 [(0, .ref (h 0)), (2, .int x2), (3, .int x3), (4, .int x4), (5, .int x5), (6, .int x6), (7, .int x7), (8, .int x8)]) : W p l e ({ frames := 4, cells := 0, slots := 0, locals := 98 } : Room) s m args below meth c H locs 0 0 Q (F0 m 121 ls []) := by
  obtain ⟨hx, hb, hml, hown, hts⟩ := id X
  unfold f_isSafeOnce_121 at hf
  refine lv_aload_n hx hb dX12_isSafeOnce_121 rfl (lv_at hl 0 rfl) ?_
  refine lv_aload_n hx hb dX12_isSafeOnce_122 rfl (lv_at hl 0 rfl) ?_
  refine m_get (v := .int (I 25)) X hw_isSafeOnce hM 25 (by decide) fl_isSafeOnce_25 rfl dX12_isSafeOnce_123 ?_
  obtain ⟨o1, ho, hf⟩ := m_clE hf
  refine m_callVi X hM (c_isInCheck ho) gX12_isSafeOnce_X12_isInCheck rfl ⟨rfl, rfl⟩ hd_isInCheck ⟨Nat.le_of_ble_eq_true rfl, Nat.le_of_ble_eq_true rfl⟩ rfl hl.1 rfl (Nat.le_of_ble_eq_true rfl) dX12_isSafeOnce_126 (fun H locs hM => ?_)
  clear ho
  refine lv_if_ne (tgt := 136) hx hb dX12_isSafeOnce_129 (by decide) (fun cc1 => ?_) (fun cc1 => ?_)
  · replace hf := m_ifF hf cc1
    refine lv_iconst (v := (0 : Int32)) hx hb dX12_isSafeOnce_136 (by decide) ?_
    exact w_isSafeOnce_137 X hret hf hM (lv_sub hl [0, 1, 2, 3, 4, 5, 6, 7] rfl)
  · replace hf := m_ifT hf cc1
    refine lv_iconst (v := (1 : Int32)) hx hb dX12_isSafeOnce_132 (by decide) ?_
    refine lv_goto (tgt := 137) hx hb dX12_isSafeOnce_133 (by decide) ?_
    exact w_isSafeOnce_137 X hret hf hM (lv_sub hl [0, 1, 2, 3, 4, 5, 6, 7] rfl)
noncomputable def f_isSafeOnce_91 (x2 : Int32) (x3 : Int32) (x4 : Int32) (x5 : Int32) (x6 : Int32) (x7 : Int32) (t0 : Int32) (I : Nat → Int32) (A : Nat → Nat → Int32) : Option (Int32 × MS) :=
  m_chk (¬ (x2 < 0 ∨ 64 ≤ (x2).toNatClampNeg)) (
  m_bnd (va_up A 24 (upd (A 24) (x2).toNatClampNeg (0 : Int32))) (fun A1 =>
  m_chk (¬ (x3 < 0 ∨ 64 ≤ (x3).toNatClampNeg)) (
  m_bnd (va_up A1 24 (upd (A1 24) (x3).toNatClampNeg x4)) (fun A2 =>
  m_if (x7 = 0) (
  f_isSafeOnce_121 x2 x3 x4 x5 x6 x7 t0 I A2
  ) (
  m_chk (¬ (x6 < 0 ∨ 64 ≤ (x6).toNatClampNeg)) (
  m_bnd (va_up A2 24 (upd (A2 24) (x6).toNatClampNeg (0 : Int32))) (fun A3 =>
  f_isSafeOnce_121 x2 x3 x4 x5 x6 x7 t0 I A3))
  )))))

set_option maxRecDepth 100000 in
set_option maxHeartbeats 4000000 in
theorem w_isSafeOnce_91 {p : Program} {l : Launch} {e : Env} {s : State} {m : MethodId} {args : Array Value} {below : List Frame} {meth : Method} {c : Code} {Q : State → Prop} {D : va_G} {cy ci : ClassId} {h : Nat → Nat} {A0 : Nat → Prop} {o : Int32 × MS} (X : CallFix p m c cX12_isSafeOnce 10 s args wsX12_isSafeOnce RX12) (hret : mRi p l e ({ frames := 4, cells := 0, slots := 0, locals := 98 } : Room) s m args below meth c Q cX12_isSafeOnce D cy ci h A0 .boolean o) {x2 : Int32} {x3 : Int32} {x4 : Int32} {x5 : Int32} {x6 : Int32} {x7 : Int32} {t0 : Int32} {I : Nat → Int32} {A : Nat → Nat → Int32} {H : Heap} {locs : List Loc} {ls : Array Slot} (hf : f_isSafeOnce_91 x2 x3 x4 x5 x6 x7 t0 I A = some o) (hM : mH D cy ci h A0 s H locs I A) (hl : lv_has ls 10 [(0, .ref (h 0)), (2, .int x2), (3, .int x3), (4, .int x4), (5, .int x5), (6, .int x6), (7, .int x7)]) : W p l e ({ frames := 4, cells := 0, slots := 0, locals := 98 } : Room) s m args below meth c H locs 0 0 Q (F0 m 91 ls [.int t0]) := by
  obtain ⟨hx, hb, hml, hown, hts⟩ := id X
  unfold f_isSafeOnce_91 at hf
  refine lv_istore (lv' := [(8, .int t0), (0, .ref (h 0)), (2, .int x2), (3, .int x3), (4, .int x4), (5, .int x5), (6, .int x6), (7, .int x7)]) hx hb dX12_isSafeOnce_91 hl (by decide) rfl (fun ls hl => ?_)
  refine lv_aload_n hx hb dX12_isSafeOnce_93 rfl (lv_at hl 1 rfl) ?_
  refine m_get (v := .ref (h 24)) X hw_isSafeOnce hM 24 (by decide) fl_isSafeOnce_24 rfl dX12_isSafeOnce_94 ?_
  refine lv_iload_n hx hb dX12_isSafeOnce_97 rfl (lv_at hl 2 rfl) ?_
  refine lv_iconst (v := (0 : Int32)) hx hb dX12_isSafeOnce_98 (by decide) ?_
  obtain ⟨cd, hf⟩ := m_chkE hf
  refine m_iast X hM 24 20 64 rfl ma_24 cd dX12_isSafeOnce_99 (fun H locs hM => ?_)
  clear cd
  obtain ⟨A1, ev, hf⟩ := m_bndE hf
  replace hM := m_hA hM ev
  clear ev
  refine lv_aload_n hx hb dX12_isSafeOnce_100 rfl (lv_at hl 1 rfl) ?_
  refine m_get (v := .ref (h 24)) X hw_isSafeOnce hM 24 (by decide) fl_isSafeOnce_24 rfl dX12_isSafeOnce_101 ?_
  refine lv_iload_n hx hb dX12_isSafeOnce_104 rfl (lv_at hl 3 rfl) ?_
  refine lv_iload hx hb dX12_isSafeOnce_105 (lv_at hl 4 rfl) ?_
  obtain ⟨cd, hf⟩ := m_chkE hf
  refine m_iast X hM 24 20 64 rfl ma_24 cd dX12_isSafeOnce_107 (fun H locs hM => ?_)
  clear cd
  obtain ⟨A2, ev, hf⟩ := m_bndE hf
  replace hM := m_hA hM ev
  clear ev
  refine lv_iload hx hb dX12_isSafeOnce_108 (lv_at hl 7 rfl) ?_
  refine lv_if_eq (tgt := 121) hx hb dX12_isSafeOnce_110 (by decide) (fun cc1 => ?_) (fun cc1 => ?_)
  · replace hf := m_ifT hf cc1
    exact w_isSafeOnce_121 X hret hf hM (lv_sub hl [1, 2, 3, 4, 5, 6, 7, 0] rfl)
  · replace hf := m_ifF hf cc1
    refine lv_aload_n hx hb dX12_isSafeOnce_113 rfl (lv_at hl 1 rfl) ?_
    refine m_get (v := .ref (h 24)) X hw_isSafeOnce hM 24 (by decide) fl_isSafeOnce_24 rfl dX12_isSafeOnce_114 ?_
    refine lv_iload hx hb dX12_isSafeOnce_117 (lv_at hl 6 rfl) ?_
    refine lv_iconst (v := (0 : Int32)) hx hb dX12_isSafeOnce_119 (by decide) ?_
    obtain ⟨cd, hf⟩ := m_chkE hf
    refine m_iast X hM 24 20 64 rfl ma_24 cd dX12_isSafeOnce_120 (fun H locs hM => ?_)
    clear cd
    obtain ⟨A3, ev, hf⟩ := m_bndE hf
    replace hM := m_hA hM ev
    clear ev
    exact w_isSafeOnce_121 X hret hf hM (lv_sub hl [1, 2, 3, 4, 5, 6, 7, 0] rfl)
noncomputable def f_isSafeOnce_73 (x2 : Int32) (x3 : Int32) (x4 : Int32) (x5 : Int32) (x6 : Int32) (t0 : Int32) (I : Nat → Int32) (A : Nat → Nat → Int32) : Option (Int32 × MS) :=
  m_if (t0 = 0) (
  f_isSafeOnce_91 x2 x3 x4 x5 x6 t0 (0 : Int32) I A
  ) (
  m_chk (¬ (x6 < 0 ∨ 64 ≤ (x6).toNatClampNeg)) (
  m_bnd (A 24 (x6).toNatClampNeg) (fun v1 =>
  f_isSafeOnce_91 x2 x3 x4 x5 x6 t0 v1 I A))
  )

set_option maxRecDepth 100000 in
set_option maxHeartbeats 4000000 in
theorem w_isSafeOnce_73 {p : Program} {l : Launch} {e : Env} {s : State} {m : MethodId} {args : Array Value} {below : List Frame} {meth : Method} {c : Code} {Q : State → Prop} {D : va_G} {cy ci : ClassId} {h : Nat → Nat} {A0 : Nat → Prop} {o : Int32 × MS} (X : CallFix p m c cX12_isSafeOnce 10 s args wsX12_isSafeOnce RX12) (hret : mRi p l e ({ frames := 4, cells := 0, slots := 0, locals := 98 } : Room) s m args below meth c Q cX12_isSafeOnce D cy ci h A0 .boolean o) {x2 : Int32} {x3 : Int32} {x4 : Int32} {x5 : Int32} {x6 : Int32} {t0 : Int32} {I : Nat → Int32} {A : Nat → Nat → Int32} {H : Heap} {locs : List Loc} {ls : Array Slot} (hf : f_isSafeOnce_73 x2 x3 x4 x5 x6 t0 I A = some o) (hM : mH D cy ci h A0 s H locs I A) (hl : lv_has ls 10 [(0, .ref (h 0)), (2, .int x2), (3, .int x3), (4, .int x4), (5, .int x5), (6, .int x6)]) : W p l e ({ frames := 4, cells := 0, slots := 0, locals := 98 } : Room) s m args below meth c H locs 0 0 Q (F0 m 73 ls [.int t0]) := by
  obtain ⟨hx, hb, hml, hown, hts⟩ := id X
  unfold f_isSafeOnce_73 at hf
  refine lv_istore (lv' := [(7, .int t0), (0, .ref (h 0)), (2, .int x2), (3, .int x3), (4, .int x4), (5, .int x5), (6, .int x6)]) hx hb dX12_isSafeOnce_73 hl (by decide) rfl (fun ls hl => ?_)
  refine lv_iload hx hb dX12_isSafeOnce_75 (lv_at hl 0 rfl) ?_
  refine lv_if_eq (tgt := 90) hx hb dX12_isSafeOnce_77 (by decide) (fun cc1 => ?_) (fun cc1 => ?_)
  · replace hf := m_ifT hf cc1
    refine lv_iconst (v := (0 : Int32)) hx hb dX12_isSafeOnce_90 (by decide) ?_
    exact w_isSafeOnce_91 X hret hf hM (lv_sub hl [1, 2, 3, 4, 5, 6, 0] rfl)
  · replace hf := m_ifF hf cc1
    refine lv_aload_n hx hb dX12_isSafeOnce_80 rfl (lv_at hl 1 rfl) ?_
    refine m_get (v := .ref (h 24)) X hw_isSafeOnce hM 24 (by decide) fl_isSafeOnce_24 rfl dX12_isSafeOnce_81 ?_
    refine lv_iload hx hb dX12_isSafeOnce_84 (lv_at hl 6 rfl) ?_
    obtain ⟨cd, hf⟩ := m_chkE hf
    refine m_iald X hM 24 20 64 rfl cd dX12_isSafeOnce_86 ?_
    clear cd
    obtain ⟨v1, ev, hf⟩ := m_bndE hf
    refine m_top ev ?_
    clear ev
    refine lv_goto (tgt := 91) hx hb dX12_isSafeOnce_87 (by decide) ?_
    exact w_isSafeOnce_91 X hret hf hM (lv_sub hl [1, 2, 3, 4, 5, 6, 0] rfl)
noncomputable def f_isSafeOnce_72 (x2 : Int32) (x3 : Int32) (x4 : Int32) (x5 : Int32) (x6 : Int32) (I : Nat → Int32) (A : Nat → Nat → Int32) : Option (Int32 × MS) :=
  f_isSafeOnce_73 x2 x3 x4 x5 x6 (0 : Int32) I A

set_option maxRecDepth 100000 in
set_option maxHeartbeats 4000000 in
theorem w_isSafeOnce_72 {p : Program} {l : Launch} {e : Env} {s : State} {m : MethodId} {args : Array Value} {below : List Frame} {meth : Method} {c : Code} {Q : State → Prop} {D : va_G} {cy ci : ClassId} {h : Nat → Nat} {A0 : Nat → Prop} {o : Int32 × MS} (X : CallFix p m c cX12_isSafeOnce 10 s args wsX12_isSafeOnce RX12) (hret : mRi p l e ({ frames := 4, cells := 0, slots := 0, locals := 98 } : Room) s m args below meth c Q cX12_isSafeOnce D cy ci h A0 .boolean o) {x2 : Int32} {x3 : Int32} {x4 : Int32} {x5 : Int32} {x6 : Int32} {I : Nat → Int32} {A : Nat → Nat → Int32} {H : Heap} {locs : List Loc} {ls : Array Slot} (hf : f_isSafeOnce_72 x2 x3 x4 x5 x6 I A = some o) (hM : mH D cy ci h A0 s H locs I A) (hl : lv_has ls 10 [(0, .ref (h 0)), (2, .int x2), (3, .int x3), (4, .int x4), (5, .int x5), (6, .int x6)]) : W p l e ({ frames := 4, cells := 0, slots := 0, locals := 98 } : Room) s m args below meth c H locs 0 0 Q (F0 m 72 ls []) := by
  obtain ⟨hx, hb, hml, hown, hts⟩ := id X
  unfold f_isSafeOnce_72 at hf
  refine lv_iconst (v := (0 : Int32)) hx hb dX12_isSafeOnce_72 (by decide) ?_
  exact w_isSafeOnce_73 X hret hf hM (lv_sub hl [0, 1, 2, 3, 4, 5] rfl)
noncomputable def f_isSafeOnce_0 (x1 : Int32) (I : Nat → Int32) (A : Nat → Nat → Int32) : Option (Int32 × MS) :=
  m_bnd (x1 - x1 / (64 : Int32) * (64 : Int32)) (fun v1 =>
  m_bnd (x1 / (64 : Int32)) (fun v2 =>
  m_bnd (v2 - v2 / (64 : Int32) * (64 : Int32)) (fun v3 =>
  m_chk (¬ (v1 < 0 ∨ 64 ≤ (v1).toNatClampNeg)) (
  m_bnd (A 24 (v1).toNatClampNeg) (fun v4 =>
  m_chk (¬ (v3 < 0 ∨ 64 ≤ (v3).toNatClampNeg)) (
  m_bnd (A 24 (v3).toNatClampNeg) (fun v5 =>
  m_bnd (v1 / (8 : Int32)) (fun v6 =>
  m_bnd (v6 * (8 : Int32)) (fun v7 =>
  m_bnd (v3 - v3 / (8 : Int32) * (8 : Int32)) (fun v8 =>
  m_bnd (v7 + v8) (fun v9 =>
  m_cl (f_kind v4 I A) (fun r10 Ic10 Ac10 =>
  m_if (r10 = (1 : Int32)) (
  m_if (v5 = 0) (
  m_bnd (v1 - v1 / (8 : Int32) * (8 : Int32)) (fun v11 =>
  m_bnd (v3 - v3 / (8 : Int32) * (8 : Int32)) (fun v12 =>
  m_if (v11 = v12) (
  f_isSafeOnce_72 v1 v3 v4 v5 v9 Ic10 Ac10
  ) (
  f_isSafeOnce_73 v1 v3 v4 v5 v9 (1 : Int32) Ic10 Ac10
  )))
  ) (
  f_isSafeOnce_72 v1 v3 v4 v5 v9 Ic10 Ac10
  )
  ) (
  f_isSafeOnce_72 v1 v3 v4 v5 v9 Ic10 Ac10
  )))))))))))))

set_option maxRecDepth 100000 in
set_option maxHeartbeats 4000000 in
theorem w_isSafeOnce_0 {p : Program} {l : Launch} {e : Env} {s : State} {m : MethodId} {args : Array Value} {below : List Frame} {meth : Method} {c : Code} {Q : State → Prop} {D : va_G} {cy ci : ClassId} {h : Nat → Nat} {A0 : Nat → Prop} {o : Int32 × MS} (X : CallFix p m c cX12_isSafeOnce 10 s args wsX12_isSafeOnce RX12) (hret : mRi p l e ({ frames := 4, cells := 0, slots := 0, locals := 98 } : Room) s m args below meth c Q cX12_isSafeOnce D cy ci h A0 .boolean o) {x1 : Int32} {I : Nat → Int32} {A : Nat → Nat → Int32} {H : Heap} {locs : List Loc} {ls : Array Slot} (hf : f_isSafeOnce_0 x1 I A = some o) (hM : mH D cy ci h A0 s H locs I A) (hl : lv_has ls 10 [(0, .ref (h 0)), (1, .int x1)]) : W p l e ({ frames := 4, cells := 0, slots := 0, locals := 98 } : Room) s m args below meth c H locs 0 0 Q (F0 m 0 ls []) := by
  obtain ⟨hx, hb, hml, hown, hts⟩ := id X
  unfold f_isSafeOnce_0 at hf
  refine lv_iload_n hx hb dX12_isSafeOnce_0 rfl (lv_at hl 1 rfl) ?_
  refine lv_bipush (v := (64 : Int32)) hx hb dX12_isSafeOnce_1 (by decide) ?_
  refine lv_irem hx hb dX12_isSafeOnce_3 (by decide) ?_
  obtain ⟨v1, ev, hf⟩ := m_bndE hf
  refine m_top ev ?_
  clear ev
  refine lv_istore_n (lv' := [(2, .int v1), (0, .ref (h 0)), (1, .int x1)]) hx hb dX12_isSafeOnce_4 rfl hl (by decide) rfl (fun ls hl => ?_)
  refine lv_iload_n hx hb dX12_isSafeOnce_5 rfl (lv_at hl 2 rfl) ?_
  refine lv_bipush (v := (64 : Int32)) hx hb dX12_isSafeOnce_6 (by decide) ?_
  refine lv_idiv hx hb dX12_isSafeOnce_8 (by decide) ?_
  obtain ⟨v2, ev, hf⟩ := m_bndE hf
  refine m_top ev ?_
  clear ev
  refine lv_bipush (v := (64 : Int32)) hx hb dX12_isSafeOnce_9 (by decide) ?_
  refine lv_irem hx hb dX12_isSafeOnce_11 (by decide) ?_
  obtain ⟨v3, ev, hf⟩ := m_bndE hf
  refine m_top ev ?_
  clear ev
  refine lv_istore_n (lv' := [(3, .int v3), (2, .int v1), (0, .ref (h 0)), (1, .int x1)]) hx hb dX12_isSafeOnce_12 rfl hl (by decide) rfl (fun ls hl => ?_)
  refine lv_aload_n hx hb dX12_isSafeOnce_13 rfl (lv_at hl 2 rfl) ?_
  refine m_get (v := .ref (h 24)) X hw_isSafeOnce hM 24 (by decide) fl_isSafeOnce_24 rfl dX12_isSafeOnce_14 ?_
  refine lv_iload_n hx hb dX12_isSafeOnce_17 rfl (lv_at hl 1 rfl) ?_
  obtain ⟨cd, hf⟩ := m_chkE hf
  refine m_iald X hM 24 20 64 rfl cd dX12_isSafeOnce_18 ?_
  clear cd
  obtain ⟨v4, ev, hf⟩ := m_bndE hf
  refine m_top ev ?_
  clear ev
  refine lv_istore (lv' := [(4, .int v4), (3, .int v3), (2, .int v1), (0, .ref (h 0)), (1, .int x1)]) hx hb dX12_isSafeOnce_19 hl (by decide) rfl (fun ls hl => ?_)
  refine lv_aload_n hx hb dX12_isSafeOnce_21 rfl (lv_at hl 3 rfl) ?_
  refine m_get (v := .ref (h 24)) X hw_isSafeOnce hM 24 (by decide) fl_isSafeOnce_24 rfl dX12_isSafeOnce_22 ?_
  refine lv_iload_n hx hb dX12_isSafeOnce_25 rfl (lv_at hl 1 rfl) ?_
  obtain ⟨cd, hf⟩ := m_chkE hf
  refine m_iald X hM 24 20 64 rfl cd dX12_isSafeOnce_26 ?_
  clear cd
  obtain ⟨v5, ev, hf⟩ := m_bndE hf
  refine m_top ev ?_
  clear ev
  refine lv_istore (lv' := [(5, .int v5), (4, .int v4), (3, .int v3), (2, .int v1), (0, .ref (h 0)), (1, .int x1)]) hx hb dX12_isSafeOnce_27 hl (by decide) rfl (fun ls hl => ?_)
  refine lv_iload_n hx hb dX12_isSafeOnce_29 rfl (lv_at hl 3 rfl) ?_
  refine lv_bipush (v := (8 : Int32)) hx hb dX12_isSafeOnce_30 (by decide) ?_
  refine lv_idiv hx hb dX12_isSafeOnce_32 (by decide) ?_
  obtain ⟨v6, ev, hf⟩ := m_bndE hf
  refine m_top ev ?_
  clear ev
  refine lv_bipush (v := (8 : Int32)) hx hb dX12_isSafeOnce_33 (by decide) ?_
  refine lv_imul hx hb dX12_isSafeOnce_35 ?_
  obtain ⟨v7, ev, hf⟩ := m_bndE hf
  refine m_top ev ?_
  clear ev
  refine lv_iload_n hx hb dX12_isSafeOnce_36 rfl (lv_at hl 2 rfl) ?_
  refine lv_bipush (v := (8 : Int32)) hx hb dX12_isSafeOnce_37 (by decide) ?_
  refine lv_irem hx hb dX12_isSafeOnce_39 (by decide) ?_
  obtain ⟨v8, ev, hf⟩ := m_bndE hf
  refine m_top ev ?_
  clear ev
  refine lv_iadd hx hb dX12_isSafeOnce_40 ?_
  obtain ⟨v9, ev, hf⟩ := m_bndE hf
  refine m_top ev ?_
  clear ev
  refine lv_istore (lv' := [(6, .int v9), (5, .int v5), (4, .int v4), (3, .int v3), (2, .int v1), (0, .ref (h 0)), (1, .int x1)]) hx hb dX12_isSafeOnce_41 hl (by decide) rfl (fun ls hl => ?_)
  refine lv_iload hx hb dX12_isSafeOnce_43 (lv_at hl 2 rfl) ?_
  obtain ⟨o10, ho, hf⟩ := m_clE hf
  refine m_callSi X hM (c_kind ho) gX12_isSafeOnce_X12_kind rfl ⟨rfl, rfl⟩ hd_kind ⟨Nat.le_of_ble_eq_true rfl, Nat.le_of_ble_eq_true rfl⟩ rfl hl.1 rfl (Nat.le_of_ble_eq_true rfl) dX12_isSafeOnce_45 (fun H locs hM => ?_)
  clear ho
  refine lv_iconst (v := (1 : Int32)) hx hb dX12_isSafeOnce_48 (by decide) ?_
  refine lv_icmp_ne (tgt := 72) hx hb dX12_isSafeOnce_49 (by decide) (fun cc1 => ?_) (fun cc1 => ?_)
  · replace hf := m_ifF hf cc1
    exact w_isSafeOnce_72 X hret hf hM (lv_sub hl [5, 4, 3, 2, 1, 0] rfl)
  · replace hf := m_ifT hf cc1
    refine lv_iload hx hb dX12_isSafeOnce_52 (lv_at hl 1 rfl) ?_
    refine lv_if_ne (tgt := 72) hx hb dX12_isSafeOnce_54 (by decide) (fun cc1 => ?_) (fun cc1 => ?_)
    · replace hf := m_ifF hf cc1
      exact w_isSafeOnce_72 X hret hf hM (lv_sub hl [5, 4, 3, 2, 1, 0] rfl)
    · replace hf := m_ifT hf cc1
      refine lv_iload_n hx hb dX12_isSafeOnce_57 rfl (lv_at hl 4 rfl) ?_
      refine lv_bipush (v := (8 : Int32)) hx hb dX12_isSafeOnce_58 (by decide) ?_
      refine lv_irem hx hb dX12_isSafeOnce_60 (by decide) ?_
      obtain ⟨v11, ev, hf⟩ := m_bndE hf
      refine m_top ev ?_
      clear ev
      refine lv_iload_n hx hb dX12_isSafeOnce_61 rfl (lv_at hl 3 rfl) ?_
      refine lv_bipush (v := (8 : Int32)) hx hb dX12_isSafeOnce_62 (by decide) ?_
      refine lv_irem hx hb dX12_isSafeOnce_64 (by decide) ?_
      obtain ⟨v12, ev, hf⟩ := m_bndE hf
      refine m_top ev ?_
      clear ev
      refine lv_icmp_eq (tgt := 72) hx hb dX12_isSafeOnce_65 (by decide) (fun cc1 => ?_) (fun cc1 => ?_)
      · replace hf := m_ifT hf cc1
        exact w_isSafeOnce_72 X hret hf hM (lv_sub hl [5, 4, 3, 2, 1, 0] rfl)
      · replace hf := m_ifF hf cc1
        refine lv_iconst (v := (1 : Int32)) hx hb dX12_isSafeOnce_68 (by decide) ?_
        refine lv_goto (tgt := 73) hx hb dX12_isSafeOnce_69 (by decide) ?_
        exact w_isSafeOnce_73 X hret hf hM (lv_sub hl [5, 4, 3, 2, 1, 0] rfl)
noncomputable def f_isSafeOnce (x1 : Int32) (I : Nat → Int32) (A : Nat → Nat → Int32) : Option (Int32 × MS) := f_isSafeOnce_0 x1 I A
theorem c_isSafeOnce {l : Launch} {D : va_G} {cy ci : ClassId} {h : Nat → Nat} {x1 : Int32} {I : Nat → Int32} {A : Nat → Nat → Int32} {o : Int32 × MS} (hf : f_isSafeOnce x1 I A = some o) : mMi l yX12_isSafeOnce wsX12_isSafeOnce ({ frames := 4, cells := 0, slots := 0, locals := 98 } : Room) [.ref (h 0), .int x1] D cy ci h I A o :=
  m_entryI (cc := cX12_isSafeOnce) (maxL := 10) (by decide) rfl rfl (Nat.le_of_ble_eq_true rfl) (fun p e s m args below meth c A0 Q H locs ls X hret hM hl => w_isSafeOnce_0 X hret hf hM (lv_sub hl [0, 1] rfl))
theorem hw_behind : ∀ w ∈ wsX120, w ∈ wsX12_behind := by decide +kernel
theorem fl_behind_25 : Cond.fieldLink RX12 121 "MoveTextsModel" "side" "I" ∈ wsX12_behind := by decide +kernel
theorem hd_behind : yX12_behind.cls = RX12 ∧ yX12_behind.cls ≠ "java/lang/invoke/MethodHandle" ∧ yX12_behind.cls ≠ "java/lang/invoke/VarHandle" ∧ (parseMethodDescriptor yX12_behind.desc).map (fun d => d.parameters.length) = some 1 := by decide +kernel
noncomputable def f_behind_98 (x2 : Int32) (I : Nat → Int32) (A : Nat → Nat → Int32) : Option (Int32 × MS) :=
  m_cl (f_bringBack  I A) (fun r1 Ic1 Ac1 =>
  m_chk (vp_nar .char x2 = x2) (some (x2, (Ic1, Ac1))))

set_option maxRecDepth 100000 in
set_option maxHeartbeats 4000000 in
theorem w_behind_98 {p : Program} {l : Launch} {e : Env} {s : State} {m : MethodId} {args : Array Value} {below : List Frame} {meth : Method} {c : Code} {Q : State → Prop} {D : va_G} {cy ci : ClassId} {h : Nat → Nat} {A0 : Nat → Prop} {o : Int32 × MS} (X : CallFix p m c cX12_behind 5 s args wsX12_behind RX12) (hret : mRi p l e ({ frames := 5, cells := 0, slots := 0, locals := 132 } : Room) s m args below meth c Q cX12_behind D cy ci h A0 .char o) {x2 : Int32} {I : Nat → Int32} {A : Nat → Nat → Int32} {H : Heap} {locs : List Loc} {ls : Array Slot} (hf : f_behind_98 x2 I A = some o) (hM : mH D cy ci h A0 s H locs I A) (hl : lv_has ls 5 [(0, .ref (h 0)), (2, .int x2)]) : W p l e ({ frames := 5, cells := 0, slots := 0, locals := 132 } : Room) s m args below meth c H locs 0 0 Q (F0 m 98 ls []) := by
  obtain ⟨hx, hb, hml, hown, hts⟩ := id X
  unfold f_behind_98 at hf
  refine lv_aload_n hx hb dX12_behind_98 rfl (lv_at hl 0 rfl) ?_
  obtain ⟨o1, ho, hf⟩ := m_clE hf
  refine m_callVv X hM (c_bringBack ho) gX12_behind_X12_bringBack rfl ⟨rfl, rfl⟩ hd_bringBack ⟨Nat.le_of_ble_eq_true rfl, Nat.le_of_ble_eq_true rfl⟩ rfl hl.1 rfl (Nat.le_of_ble_eq_true rfl) dX12_behind_99 (fun H locs hM => ?_)
  clear ho
  refine lv_iload_n hx hb dX12_behind_102 rfl (lv_at hl 1 rfl) ?_
  obtain ⟨cd, hf⟩ := m_chkE hf
  cases hf
  exact hret H locs _ ls hM (m_nc cd) dX12_behind_103
noncomputable def f_behind_92 (self27 : Int32 → Int32 → (Nat → Int32) → (Nat → Nat → Int32) → Option (Int32 × MS)) (x2 : Int32) (x3 : Int32) (I : Nat → Int32) (A : Nat → Nat → Int32) : Option (Int32 × MS) :=
  m_bnd (x3 + (1 : Int32)) (fun v1 =>
  self27 x2 v1 I A)

set_option maxRecDepth 100000 in
set_option maxHeartbeats 4000000 in
theorem w_behind_92 {p : Program} {l : Launch} {e : Env} {s : State} {m : MethodId} {args : Array Value} {below : List Frame} {meth : Method} {c : Code} {Q : State → Prop} {D : va_G} {cy ci : ClassId} {h : Nat → Nat} {A0 : Nat → Prop} {o : Int32 × MS} (X : CallFix p m c cX12_behind 5 s args wsX12_behind RX12) (hret : mRi p l e ({ frames := 5, cells := 0, slots := 0, locals := 132 } : Room) s m args below meth c Q cX12_behind D cy ci h A0 .char o) {self27 : Int32 → Int32 → (Nat → Int32) → (Nat → Nat → Int32) → Option (Int32 × MS)} (hself27 : ∀ (x2 : Int32) (x3 : Int32) (I : Nat → Int32) (A : Nat → Nat → Int32) (H : Heap) (locs : List Loc) (ls : Array Slot), self27 x2 x3 I A = some o → mH D cy ci h A0 s H locs I A → lv_has ls 5 [(0, .ref (h 0)), (2, .int x2), (3, .int x3)] → W p l e ({ frames := 5, cells := 0, slots := 0, locals := 132 } : Room) s m args below meth c H locs 0 0 Q (F0 m 27 ls [])) {x2 : Int32} {x3 : Int32} {I : Nat → Int32} {A : Nat → Nat → Int32} {H : Heap} {locs : List Loc} {ls : Array Slot} (hf : f_behind_92 self27 x2 x3 I A = some o) (hM : mH D cy ci h A0 s H locs I A) (hl : lv_has ls 5 [(0, .ref (h 0)), (2, .int x2), (3, .int x3)]) : W p l e ({ frames := 5, cells := 0, slots := 0, locals := 132 } : Room) s m args below meth c H locs 0 0 Q (F0 m 92 ls []) := by
  obtain ⟨hx, hb, hml, hown, hts⟩ := id X
  unfold f_behind_92 at hf
  obtain ⟨v1, ev, hf⟩ := m_bndE hf
  refine lv_iinc (v := v1) (lv' := [(3, .int v1), (0, .ref (h 0)), (2, .int x2)]) hx hb dX12_behind_92 hl (k := 2) rfl (by rw [ev]; rfl) (by decide) rfl (fun ls hl => ?_)
  clear ev
  refine lv_goto (tgt := 27) hx hb dX12_behind_95 (by decide) ?_
  exact hself27 _ _ _ _ _ _ _ hf hM (lv_sub hl [1, 2, 0] rfl)
noncomputable def f_behind_85 (self27 : Int32 → Int32 → (Nat → Int32) → (Nat → Nat → Int32) → Option (Int32 × MS)) (self42 : Int32 → Int32 → Int32 → (Nat → Int32) → (Nat → Nat → Int32) → Option (Int32 × MS)) (x3 : Int32) (x4 : Int32) (t0 : Int32) (I : Nat → Int32) (A : Nat → Nat → Int32) : Option (Int32 × MS) :=
  m_bnd (x4 + (1 : Int32)) (fun v1 =>
  self42 t0 x3 v1 I A)

set_option maxRecDepth 100000 in
set_option maxHeartbeats 4000000 in
theorem w_behind_85 {p : Program} {l : Launch} {e : Env} {s : State} {m : MethodId} {args : Array Value} {below : List Frame} {meth : Method} {c : Code} {Q : State → Prop} {D : va_G} {cy ci : ClassId} {h : Nat → Nat} {A0 : Nat → Prop} {o : Int32 × MS} (X : CallFix p m c cX12_behind 5 s args wsX12_behind RX12) (hret : mRi p l e ({ frames := 5, cells := 0, slots := 0, locals := 132 } : Room) s m args below meth c Q cX12_behind D cy ci h A0 .char o) {self27 : Int32 → Int32 → (Nat → Int32) → (Nat → Nat → Int32) → Option (Int32 × MS)} (hself27 : ∀ (x2 : Int32) (x3 : Int32) (I : Nat → Int32) (A : Nat → Nat → Int32) (H : Heap) (locs : List Loc) (ls : Array Slot), self27 x2 x3 I A = some o → mH D cy ci h A0 s H locs I A → lv_has ls 5 [(0, .ref (h 0)), (2, .int x2), (3, .int x3)] → W p l e ({ frames := 5, cells := 0, slots := 0, locals := 132 } : Room) s m args below meth c H locs 0 0 Q (F0 m 27 ls [])) {self42 : Int32 → Int32 → Int32 → (Nat → Int32) → (Nat → Nat → Int32) → Option (Int32 × MS)} (hself42 : ∀ (x2 : Int32) (x3 : Int32) (x4 : Int32) (I : Nat → Int32) (A : Nat → Nat → Int32) (H : Heap) (locs : List Loc) (ls : Array Slot), self42 x2 x3 x4 I A = some o → mH D cy ci h A0 s H locs I A → lv_has ls 5 [(0, .ref (h 0)), (2, .int x2), (3, .int x3), (4, .int x4)] → W p l e ({ frames := 5, cells := 0, slots := 0, locals := 132 } : Room) s m args below meth c H locs 0 0 Q (F0 m 42 ls [])) {x3 : Int32} {x4 : Int32} {t0 : Int32} {I : Nat → Int32} {A : Nat → Nat → Int32} {H : Heap} {locs : List Loc} {ls : Array Slot} (hf : f_behind_85 self27 self42 x3 x4 t0 I A = some o) (hM : mH D cy ci h A0 s H locs I A) (hl : lv_has ls 5 [(0, .ref (h 0)), (3, .int x3), (4, .int x4)]) : W p l e ({ frames := 5, cells := 0, slots := 0, locals := 132 } : Room) s m args below meth c H locs 0 0 Q (F0 m 85 ls [.int t0]) := by
  obtain ⟨hx, hb, hml, hown, hts⟩ := id X
  unfold f_behind_85 at hf
  refine lv_istore_n (lv' := [(2, .int t0), (0, .ref (h 0)), (3, .int x3), (4, .int x4)]) hx hb dX12_behind_85 rfl hl (by decide) rfl (fun ls hl => ?_)
  obtain ⟨v1, ev, hf⟩ := m_bndE hf
  refine lv_iinc (v := v1) (lv' := [(4, .int v1), (2, .int t0), (0, .ref (h 0)), (3, .int x3)]) hx hb dX12_behind_86 hl (k := 3) rfl (by rw [ev]; rfl) (by decide) rfl (fun ls hl => ?_)
  clear ev
  refine lv_goto (tgt := 42) hx hb dX12_behind_89 (by decide) ?_
  exact hself42 _ _ _ _ _ _ _ _ hf hM (lv_sub hl [2, 1, 3, 0] rfl)
noncomputable def f_behind_84 (self27 : Int32 → Int32 → (Nat → Int32) → (Nat → Nat → Int32) → Option (Int32 × MS)) (self42 : Int32 → Int32 → Int32 → (Nat → Int32) → (Nat → Nat → Int32) → Option (Int32 × MS)) (x2 : Int32) (x3 : Int32) (x4 : Int32) (I : Nat → Int32) (A : Nat → Nat → Int32) : Option (Int32 × MS) :=
  f_behind_85 self27 self42 x3 x4 x2 I A

set_option maxRecDepth 100000 in
set_option maxHeartbeats 4000000 in
theorem w_behind_84 {p : Program} {l : Launch} {e : Env} {s : State} {m : MethodId} {args : Array Value} {below : List Frame} {meth : Method} {c : Code} {Q : State → Prop} {D : va_G} {cy ci : ClassId} {h : Nat → Nat} {A0 : Nat → Prop} {o : Int32 × MS} (X : CallFix p m c cX12_behind 5 s args wsX12_behind RX12) (hret : mRi p l e ({ frames := 5, cells := 0, slots := 0, locals := 132 } : Room) s m args below meth c Q cX12_behind D cy ci h A0 .char o) {self27 : Int32 → Int32 → (Nat → Int32) → (Nat → Nat → Int32) → Option (Int32 × MS)} (hself27 : ∀ (x2 : Int32) (x3 : Int32) (I : Nat → Int32) (A : Nat → Nat → Int32) (H : Heap) (locs : List Loc) (ls : Array Slot), self27 x2 x3 I A = some o → mH D cy ci h A0 s H locs I A → lv_has ls 5 [(0, .ref (h 0)), (2, .int x2), (3, .int x3)] → W p l e ({ frames := 5, cells := 0, slots := 0, locals := 132 } : Room) s m args below meth c H locs 0 0 Q (F0 m 27 ls [])) {self42 : Int32 → Int32 → Int32 → (Nat → Int32) → (Nat → Nat → Int32) → Option (Int32 × MS)} (hself42 : ∀ (x2 : Int32) (x3 : Int32) (x4 : Int32) (I : Nat → Int32) (A : Nat → Nat → Int32) (H : Heap) (locs : List Loc) (ls : Array Slot), self42 x2 x3 x4 I A = some o → mH D cy ci h A0 s H locs I A → lv_has ls 5 [(0, .ref (h 0)), (2, .int x2), (3, .int x3), (4, .int x4)] → W p l e ({ frames := 5, cells := 0, slots := 0, locals := 132 } : Room) s m args below meth c H locs 0 0 Q (F0 m 42 ls [])) {x2 : Int32} {x3 : Int32} {x4 : Int32} {I : Nat → Int32} {A : Nat → Nat → Int32} {H : Heap} {locs : List Loc} {ls : Array Slot} (hf : f_behind_84 self27 self42 x2 x3 x4 I A = some o) (hM : mH D cy ci h A0 s H locs I A) (hl : lv_has ls 5 [(0, .ref (h 0)), (2, .int x2), (3, .int x3), (4, .int x4)]) : W p l e ({ frames := 5, cells := 0, slots := 0, locals := 132 } : Room) s m args below meth c H locs 0 0 Q (F0 m 84 ls []) := by
  obtain ⟨hx, hb, hml, hown, hts⟩ := id X
  unfold f_behind_84 at hf
  refine lv_iload_n hx hb dX12_behind_84 rfl (lv_at hl 1 rfl) ?_
  exact w_behind_85 X hret hself27 hself42 hf hM (lv_sub hl [0, 2, 3] rfl)
noncomputable def f_behind_42s (self27 : Int32 → Int32 → (Nat → Int32) → (Nat → Nat → Int32) → Option (Int32 × MS)) (self42 : Int32 → Int32 → Int32 → (Nat → Int32) → (Nat → Nat → Int32) → Option (Int32 × MS)) (x2 : Int32) (x3 : Int32) (x4 : Int32) (I : Nat → Int32) (A : Nat → Nat → Int32) : Option (Int32 × MS) :=
  m_if ((64 : Int32) ≤ x4) (
  f_behind_92 self27 x2 x3 I A
  ) (
  m_if (x2 = (35 : Int32)) (
  m_cl (f_goes x3 x4 I A) (fun r1 Ic1 Ac1 =>
  m_if (r1 = 0) (
  f_behind_84 self27 self42 x2 x3 x4 Ic1 Ac1
  ) (
  m_bnd ((64 : Int32) * x4) (fun v2 =>
  m_bnd (x3 + v2) (fun v3 =>
  m_cl (f_isSafeOnce v3 Ic1 Ac1) (fun r4 Ic4 Ac4 =>
  m_if (r4 = 0) (
  f_behind_84 self27 self42 x2 x3 x4 Ic4 Ac4
  ) (
  f_behind_85 self27 self42 x3 x4 (43 : Int32) Ic4 Ac4
  ))))
  ))
  ) (
  f_behind_92 self27 x2 x3 I A
  )
  )

set_option maxRecDepth 100000 in
set_option maxHeartbeats 4000000 in
theorem ws_behind_42 {p : Program} {l : Launch} {e : Env} {s : State} {m : MethodId} {args : Array Value} {below : List Frame} {meth : Method} {c : Code} {Q : State → Prop} {D : va_G} {cy ci : ClassId} {h : Nat → Nat} {A0 : Nat → Prop} {o : Int32 × MS} (X : CallFix p m c cX12_behind 5 s args wsX12_behind RX12) (hret : mRi p l e ({ frames := 5, cells := 0, slots := 0, locals := 132 } : Room) s m args below meth c Q cX12_behind D cy ci h A0 .char o) {self27 : Int32 → Int32 → (Nat → Int32) → (Nat → Nat → Int32) → Option (Int32 × MS)} (hself27 : ∀ (x2 : Int32) (x3 : Int32) (I : Nat → Int32) (A : Nat → Nat → Int32) (H : Heap) (locs : List Loc) (ls : Array Slot), self27 x2 x3 I A = some o → mH D cy ci h A0 s H locs I A → lv_has ls 5 [(0, .ref (h 0)), (2, .int x2), (3, .int x3)] → W p l e ({ frames := 5, cells := 0, slots := 0, locals := 132 } : Room) s m args below meth c H locs 0 0 Q (F0 m 27 ls [])) {self42 : Int32 → Int32 → Int32 → (Nat → Int32) → (Nat → Nat → Int32) → Option (Int32 × MS)} (hself42 : ∀ (x2 : Int32) (x3 : Int32) (x4 : Int32) (I : Nat → Int32) (A : Nat → Nat → Int32) (H : Heap) (locs : List Loc) (ls : Array Slot), self42 x2 x3 x4 I A = some o → mH D cy ci h A0 s H locs I A → lv_has ls 5 [(0, .ref (h 0)), (2, .int x2), (3, .int x3), (4, .int x4)] → W p l e ({ frames := 5, cells := 0, slots := 0, locals := 132 } : Room) s m args below meth c H locs 0 0 Q (F0 m 42 ls [])) {x2 : Int32} {x3 : Int32} {x4 : Int32} {I : Nat → Int32} {A : Nat → Nat → Int32} {H : Heap} {locs : List Loc} {ls : Array Slot} (hf : f_behind_42s self27 self42 x2 x3 x4 I A = some o) (hM : mH D cy ci h A0 s H locs I A) (hl : lv_has ls 5 [(0, .ref (h 0)), (2, .int x2), (3, .int x3), (4, .int x4)]) : W p l e ({ frames := 5, cells := 0, slots := 0, locals := 132 } : Room) s m args below meth c H locs 0 0 Q (F0 m 42 ls []) := by
  obtain ⟨hx, hb, hml, hown, hts⟩ := id X
  unfold f_behind_42s at hf
  refine lv_iload hx hb dX12_behind_42 (lv_at hl 3 rfl) ?_
  refine lv_bipush (v := (64 : Int32)) hx hb dX12_behind_44 (by decide) ?_
  refine lv_icmp_ge (tgt := 92) hx hb dX12_behind_46 (by decide) (fun cc1 => ?_) (fun cc1 => ?_)
  · replace hf := m_ifT hf cc1
    exact w_behind_92 X hret hself27 hf hM (lv_sub hl [0, 1, 2] rfl)
  · replace hf := m_ifF hf cc1
    refine lv_iload_n hx hb dX12_behind_49 rfl (lv_at hl 1 rfl) ?_
    refine lv_bipush (v := (35 : Int32)) hx hb dX12_behind_50 (by decide) ?_
    refine lv_icmp_ne (tgt := 92) hx hb dX12_behind_52 (by decide) (fun cc1 => ?_) (fun cc1 => ?_)
    · replace hf := m_ifF hf cc1
      exact w_behind_92 X hret hself27 hf hM (lv_sub hl [0, 1, 2] rfl)
    · replace hf := m_ifT hf cc1
      refine lv_aload_n hx hb dX12_behind_55 rfl (lv_at hl 0 rfl) ?_
      refine lv_iload_n hx hb dX12_behind_56 rfl (lv_at hl 2 rfl) ?_
      refine lv_iload hx hb dX12_behind_57 (lv_at hl 3 rfl) ?_
      obtain ⟨o1, ho, hf⟩ := m_clE hf
      refine m_callVi X hM (c_goes ho) gX12_behind_X12_goes rfl ⟨rfl, rfl⟩ hd_goes ⟨Nat.le_of_ble_eq_true rfl, Nat.le_of_ble_eq_true rfl⟩ rfl hl.1 rfl (Nat.le_of_ble_eq_true rfl) dX12_behind_59 (fun H locs hM => ?_)
      clear ho
      refine lv_if_eq (tgt := 84) hx hb dX12_behind_62 (by decide) (fun cc1 => ?_) (fun cc1 => ?_)
      · replace hf := m_ifT hf cc1
        exact w_behind_84 X hret hself27 hself42 hf hM (lv_sub hl [0, 1, 2, 3] rfl)
      · replace hf := m_ifF hf cc1
        refine lv_aload_n hx hb dX12_behind_65 rfl (lv_at hl 0 rfl) ?_
        refine lv_iload_n hx hb dX12_behind_66 rfl (lv_at hl 2 rfl) ?_
        refine lv_bipush (v := (64 : Int32)) hx hb dX12_behind_67 (by decide) ?_
        refine lv_iload hx hb dX12_behind_69 (lv_at hl 3 rfl) ?_
        refine lv_imul hx hb dX12_behind_71 ?_
        obtain ⟨v2, ev, hf⟩ := m_bndE hf
        refine m_top ev ?_
        clear ev
        refine lv_iadd hx hb dX12_behind_72 ?_
        obtain ⟨v3, ev, hf⟩ := m_bndE hf
        refine m_top ev ?_
        clear ev
        obtain ⟨o4, ho, hf⟩ := m_clE hf
        refine m_callVi X hM (c_isSafeOnce ho) gX12_behind_X12_isSafeOnce rfl ⟨rfl, rfl⟩ hd_isSafeOnce ⟨Nat.le_of_ble_eq_true rfl, Nat.le_of_ble_eq_true rfl⟩ rfl hl.1 rfl (Nat.le_of_ble_eq_true rfl) dX12_behind_73 (fun H locs hM => ?_)
        clear ho
        refine lv_if_eq (tgt := 84) hx hb dX12_behind_76 (by decide) (fun cc1 => ?_) (fun cc1 => ?_)
        · replace hf := m_ifT hf cc1
          exact w_behind_84 X hret hself27 hself42 hf hM (lv_sub hl [0, 1, 2, 3] rfl)
        · replace hf := m_ifF hf cc1
          refine lv_bipush (v := (43 : Int32)) hx hb dX12_behind_79 (by decide) ?_
          refine lv_goto (tgt := 85) hx hb dX12_behind_81 (by decide) ?_
          exact w_behind_85 X hret hself27 hself42 hf hM (lv_sub hl [0, 2, 3] rfl)
noncomputable def f_behind_42 (self27 : Int32 → Int32 → (Nat → Int32) → (Nat → Nat → Int32) → Option (Int32 × MS)) : Nat → Int32 → Int32 → Int32 → (Nat → Int32) → (Nat → Nat → Int32) → Option (Int32 × MS)
  | 0 => fun _ _ _ _ _ => none
  | n + 1 => f_behind_42s self27 (f_behind_42 self27 n)
theorem w_behind_42 {p : Program} {l : Launch} {e : Env} {s : State} {m : MethodId} {args : Array Value} {below : List Frame} {meth : Method} {c : Code} {Q : State → Prop} {D : va_G} {cy ci : ClassId} {h : Nat → Nat} {A0 : Nat → Prop} {o : Int32 × MS} (X : CallFix p m c cX12_behind 5 s args wsX12_behind RX12) (hret : mRi p l e ({ frames := 5, cells := 0, slots := 0, locals := 132 } : Room) s m args below meth c Q cX12_behind D cy ci h A0 .char o) {self27 : Int32 → Int32 → (Nat → Int32) → (Nat → Nat → Int32) → Option (Int32 × MS)} (hself27 : ∀ (x2 : Int32) (x3 : Int32) (I : Nat → Int32) (A : Nat → Nat → Int32) (H : Heap) (locs : List Loc) (ls : Array Slot), self27 x2 x3 I A = some o → mH D cy ci h A0 s H locs I A → lv_has ls 5 [(0, .ref (h 0)), (2, .int x2), (3, .int x3)] → W p l e ({ frames := 5, cells := 0, slots := 0, locals := 132 } : Room) s m args below meth c H locs 0 0 Q (F0 m 27 ls [])) (n : Nat) : ∀ (x2 : Int32) (x3 : Int32) (x4 : Int32) (I : Nat → Int32) (A : Nat → Nat → Int32) (H : Heap) (locs : List Loc) (ls : Array Slot), f_behind_42 self27 n x2 x3 x4 I A = some o → mH D cy ci h A0 s H locs I A → lv_has ls 5 [(0, .ref (h 0)), (2, .int x2), (3, .int x3), (4, .int x4)] → W p l e ({ frames := 5, cells := 0, slots := 0, locals := 132 } : Room) s m args below meth c H locs 0 0 Q (F0 m 42 ls []) := by
  induction n with
  | zero => intro x2 x3 x4 I A H locs ls hf; cases hf
  | succ n ih => intro x2 x3 x4 I A H locs ls hf hM hl; exact ws_behind_42 X hret hself27 (self42 := f_behind_42 self27 n) ih hf hM hl
noncomputable def f_behind_27s (self27 : Int32 → Int32 → (Nat → Int32) → (Nat → Nat → Int32) → Option (Int32 × MS)) (x2 : Int32) (x3 : Int32) (I : Nat → Int32) (A : Nat → Nat → Int32) : Option (Int32 × MS) :=
  m_if ((64 : Int32) ≤ x3) (
  f_behind_98 x2 I A
  ) (
  m_if (x2 = (35 : Int32)) (
  f_behind_42 self27 mFuel x2 x3 (0 : Int32) I A
  ) (
  f_behind_98 x2 I A
  )
  )

set_option maxRecDepth 100000 in
set_option maxHeartbeats 4000000 in
theorem ws_behind_27 {p : Program} {l : Launch} {e : Env} {s : State} {m : MethodId} {args : Array Value} {below : List Frame} {meth : Method} {c : Code} {Q : State → Prop} {D : va_G} {cy ci : ClassId} {h : Nat → Nat} {A0 : Nat → Prop} {o : Int32 × MS} (X : CallFix p m c cX12_behind 5 s args wsX12_behind RX12) (hret : mRi p l e ({ frames := 5, cells := 0, slots := 0, locals := 132 } : Room) s m args below meth c Q cX12_behind D cy ci h A0 .char o) {self27 : Int32 → Int32 → (Nat → Int32) → (Nat → Nat → Int32) → Option (Int32 × MS)} (hself27 : ∀ (x2 : Int32) (x3 : Int32) (I : Nat → Int32) (A : Nat → Nat → Int32) (H : Heap) (locs : List Loc) (ls : Array Slot), self27 x2 x3 I A = some o → mH D cy ci h A0 s H locs I A → lv_has ls 5 [(0, .ref (h 0)), (2, .int x2), (3, .int x3)] → W p l e ({ frames := 5, cells := 0, slots := 0, locals := 132 } : Room) s m args below meth c H locs 0 0 Q (F0 m 27 ls [])) {x2 : Int32} {x3 : Int32} {I : Nat → Int32} {A : Nat → Nat → Int32} {H : Heap} {locs : List Loc} {ls : Array Slot} (hf : f_behind_27s self27 x2 x3 I A = some o) (hM : mH D cy ci h A0 s H locs I A) (hl : lv_has ls 5 [(0, .ref (h 0)), (2, .int x2), (3, .int x3)]) : W p l e ({ frames := 5, cells := 0, slots := 0, locals := 132 } : Room) s m args below meth c H locs 0 0 Q (F0 m 27 ls []) := by
  obtain ⟨hx, hb, hml, hown, hts⟩ := id X
  unfold f_behind_27s at hf
  refine lv_iload_n hx hb dX12_behind_27 rfl (lv_at hl 2 rfl) ?_
  refine lv_bipush (v := (64 : Int32)) hx hb dX12_behind_28 (by decide) ?_
  refine lv_icmp_ge (tgt := 98) hx hb dX12_behind_30 (by decide) (fun cc1 => ?_) (fun cc1 => ?_)
  · replace hf := m_ifT hf cc1
    exact w_behind_98 X hret hf hM (lv_sub hl [0, 1] rfl)
  · replace hf := m_ifF hf cc1
    refine lv_iload_n hx hb dX12_behind_33 rfl (lv_at hl 1 rfl) ?_
    refine lv_bipush (v := (35 : Int32)) hx hb dX12_behind_34 (by decide) ?_
    refine lv_icmp_ne (tgt := 98) hx hb dX12_behind_36 (by decide) (fun cc1 => ?_) (fun cc1 => ?_)
    · replace hf := m_ifF hf cc1
      exact w_behind_98 X hret hf hM (lv_sub hl [0, 1] rfl)
    · replace hf := m_ifT hf cc1
      refine lv_iconst (v := (0 : Int32)) hx hb dX12_behind_39 (by decide) ?_
      refine lv_istore (lv' := [(4, .int (0 : Int32)), (0, .ref (h 0)), (2, .int x2), (3, .int x3)]) hx hb dX12_behind_40 hl (by decide) rfl (fun ls hl => ?_)
      exact w_behind_42 X hret hself27 _ _ _ _ _ _ _ _ _ hf hM (lv_sub hl [1, 2, 3, 0] rfl)
noncomputable def f_behind_27 : Nat → Int32 → Int32 → (Nat → Int32) → (Nat → Nat → Int32) → Option (Int32 × MS)
  | 0 => fun _ _ _ _ => none
  | n + 1 => f_behind_27s (f_behind_27 n)
theorem w_behind_27 {p : Program} {l : Launch} {e : Env} {s : State} {m : MethodId} {args : Array Value} {below : List Frame} {meth : Method} {c : Code} {Q : State → Prop} {D : va_G} {cy ci : ClassId} {h : Nat → Nat} {A0 : Nat → Prop} {o : Int32 × MS} (X : CallFix p m c cX12_behind 5 s args wsX12_behind RX12) (hret : mRi p l e ({ frames := 5, cells := 0, slots := 0, locals := 132 } : Room) s m args below meth c Q cX12_behind D cy ci h A0 .char o) (n : Nat) : ∀ (x2 : Int32) (x3 : Int32) (I : Nat → Int32) (A : Nat → Nat → Int32) (H : Heap) (locs : List Loc) (ls : Array Slot), f_behind_27 n x2 x3 I A = some o → mH D cy ci h A0 s H locs I A → lv_has ls 5 [(0, .ref (h 0)), (2, .int x2), (3, .int x3)] → W p l e ({ frames := 5, cells := 0, slots := 0, locals := 132 } : Room) s m args below meth c H locs 0 0 Q (F0 m 27 ls []) := by
  induction n with
  | zero => intro x2 x3 I A H locs ls hf; cases hf
  | succ n ih => intro x2 x3 I A H locs ls hf hM hl; exact ws_behind_27 X hret (self27 := f_behind_27 n) ih hf hM hl
noncomputable def f_behind_0 (x1 : Int32) (I : Nat → Int32) (A : Nat → Nat → Int32) : Option (Int32 × MS) :=
  m_cl (f_keep  I A) (fun r1 Ic1 Ac1 =>
  m_cl (f_make x1 Ic1 Ac1) (fun r2 Ic2 Ac2 =>
  m_cl (f_isInCheck (Ic2 25) Ic2 Ac2) (fun r3 Ic3 Ac3 =>
  m_if (r3 = 0) (
  f_behind_98 (0 : Int32) Ic3 Ac3
  ) (
  f_behind_27 mFuel (35 : Int32) (0 : Int32) Ic3 Ac3
  ))))

set_option maxRecDepth 100000 in
set_option maxHeartbeats 4000000 in
theorem w_behind_0 {p : Program} {l : Launch} {e : Env} {s : State} {m : MethodId} {args : Array Value} {below : List Frame} {meth : Method} {c : Code} {Q : State → Prop} {D : va_G} {cy ci : ClassId} {h : Nat → Nat} {A0 : Nat → Prop} {o : Int32 × MS} (X : CallFix p m c cX12_behind 5 s args wsX12_behind RX12) (hret : mRi p l e ({ frames := 5, cells := 0, slots := 0, locals := 132 } : Room) s m args below meth c Q cX12_behind D cy ci h A0 .char o) {x1 : Int32} {I : Nat → Int32} {A : Nat → Nat → Int32} {H : Heap} {locs : List Loc} {ls : Array Slot} (hf : f_behind_0 x1 I A = some o) (hM : mH D cy ci h A0 s H locs I A) (hl : lv_has ls 5 [(0, .ref (h 0)), (1, .int x1)]) : W p l e ({ frames := 5, cells := 0, slots := 0, locals := 132 } : Room) s m args below meth c H locs 0 0 Q (F0 m 0 ls []) := by
  obtain ⟨hx, hb, hml, hown, hts⟩ := id X
  unfold f_behind_0 at hf
  refine lv_aload_n hx hb dX12_behind_0 rfl (lv_at hl 0 rfl) ?_
  obtain ⟨o1, ho, hf⟩ := m_clE hf
  refine m_callVv X hM (c_keep ho) gX12_behind_X12_keep rfl ⟨rfl, rfl⟩ hd_keep ⟨Nat.le_of_ble_eq_true rfl, Nat.le_of_ble_eq_true rfl⟩ rfl hl.1 rfl (Nat.le_of_ble_eq_true rfl) dX12_behind_1 (fun H locs hM => ?_)
  clear ho
  refine lv_aload_n hx hb dX12_behind_4 rfl (lv_at hl 0 rfl) ?_
  refine lv_iload_n hx hb dX12_behind_5 rfl (lv_at hl 1 rfl) ?_
  obtain ⟨o2, ho, hf⟩ := m_clE hf
  refine m_callVv X hM (c_make ho) gX12_behind_X12_make rfl ⟨rfl, rfl⟩ hd_make ⟨Nat.le_of_ble_eq_true rfl, Nat.le_of_ble_eq_true rfl⟩ rfl hl.1 rfl (Nat.le_of_ble_eq_true rfl) dX12_behind_6 (fun H locs hM => ?_)
  clear ho
  refine lv_iconst (v := (0 : Int32)) hx hb dX12_behind_9 (by decide) ?_
  refine lv_istore_n (lv' := [(2, .int (0 : Int32)), (0, .ref (h 0)), (1, .int x1)]) hx hb dX12_behind_10 rfl hl (by decide) rfl (fun ls hl => ?_)
  refine lv_aload_n hx hb dX12_behind_11 rfl (lv_at hl 1 rfl) ?_
  refine lv_aload_n hx hb dX12_behind_12 rfl (lv_at hl 1 rfl) ?_
  refine m_get (v := .int (o2.2.1 25)) X hw_behind hM 25 (by decide) fl_behind_25 rfl dX12_behind_13 ?_
  obtain ⟨o3, ho, hf⟩ := m_clE hf
  refine m_callVi X hM (c_isInCheck ho) gX12_behind_X12_isInCheck rfl ⟨rfl, rfl⟩ hd_isInCheck ⟨Nat.le_of_ble_eq_true rfl, Nat.le_of_ble_eq_true rfl⟩ rfl hl.1 rfl (Nat.le_of_ble_eq_true rfl) dX12_behind_16 (fun H locs hM => ?_)
  clear ho
  refine lv_if_eq (tgt := 98) hx hb dX12_behind_19 (by decide) (fun cc1 => ?_) (fun cc1 => ?_)
  · replace hf := m_ifT hf cc1
    exact w_behind_98 X hret hf hM (lv_sub hl [1, 0] rfl)
  · replace hf := m_ifF hf cc1
    refine lv_bipush (v := (35 : Int32)) hx hb dX12_behind_22 (by decide) ?_
    refine lv_istore_n (lv' := [(2, .int (35 : Int32)), (0, .ref (h 0)), (1, .int x1)]) hx hb dX12_behind_24 rfl hl (by decide) rfl (fun ls hl => ?_)
    refine lv_iconst (v := (0 : Int32)) hx hb dX12_behind_25 (by decide) ?_
    refine lv_istore_n (lv' := [(3, .int (0 : Int32)), (2, .int (35 : Int32)), (0, .ref (h 0)), (1, .int x1)]) hx hb dX12_behind_26 rfl hl (by decide) rfl (fun ls hl => ?_)
    exact w_behind_27 X hret _ _ _ _ _ _ _ _ hf hM (lv_sub hl [2, 1, 0] rfl)
noncomputable def f_behind (x1 : Int32) (I : Nat → Int32) (A : Nat → Nat → Int32) : Option (Int32 × MS) := f_behind_0 x1 I A
theorem c_behind {l : Launch} {D : va_G} {cy ci : ClassId} {h : Nat → Nat} {x1 : Int32} {I : Nat → Int32} {A : Nat → Nat → Int32} {o : Int32 × MS} (hf : f_behind x1 I A = some o) : mMi l yX12_behind wsX12_behind ({ frames := 5, cells := 0, slots := 0, locals := 132 } : Room) [.ref (h 0), .int x1] D cy ci h I A o :=
  m_entryI (cc := cX12_behind) (maxL := 5) (by decide) rfl rfl (Nat.le_of_ble_eq_true rfl) (fun p e s m args below meth c A0 Q H locs ls X hret hM hl => w_behind_0 X hret hf hM (lv_sub hl [0, 1] rfl))
end
