theorem fr_kind_0 {o : Int32 × MS} {x0 : Int32} {I : Nat → Int32} {A : Nat → Nat → Int32}  (hf : f_kind_0 x0 I A = some o) : FrS [] [] I A o.2.1 o.2.2 := by
  have hR : FrS [] [] I A I A := frs_0
  unfold f_kind_0 at hf
  obtain ⟨v1, ev, hf⟩ := m_bndE hf
  clear ev
  cases hf
  exact hR
theorem fr_kind {o : Int32 × MS} {x0 : Int32} {I : Nat → Int32} {A : Nat → Nat → Int32}  (hf : f_kind x0 I A = some o) : FrS [] [] I A o.2.1 o.2.2 := by
  have hR : FrS [] [] I A I A := frs_0
  unfold f_kind at hf
  exact frs_t hR (fr_kind_0  hf) (fun _ h => h) (fun _ h => h)
theorem fr_sideOf_11 {o : Int32 × MS} {t0 : Int32} {I : Nat → Int32} {A : Nat → Nat → Int32}  (hf : f_sideOf_11 t0 I A = some o) : FrS [] [] I A o.2.1 o.2.2 := by
  have hR : FrS [] [] I A I A := frs_0
  unfold f_sideOf_11 at hf
  cases hf
  exact hR
theorem fr_sideOf_0 {o : Int32 × MS} {x0 : Int32} {I : Nat → Int32} {A : Nat → Nat → Int32}  (hf : f_sideOf_0 x0 I A = some o) : FrS [] [] I A o.2.1 o.2.2 := by
  have hR : FrS [] [] I A I A := frs_0
  unfold f_sideOf_0 at hf
  rcases m_ifE hf with ⟨-, hf⟩ | ⟨-, hf⟩
  ·
    exact frs_t hR (fr_sideOf_11  hf) (fun _ h => h) (fun _ h => h)
  ·
    obtain ⟨v1, ev, hf⟩ := m_bndE hf
    clear ev
    exact frs_t hR (fr_sideOf_11  hf) (fun _ h => h) (fun _ h => h)
theorem fr_sideOf {o : Int32 × MS} {x0 : Int32} {I : Nat → Int32} {A : Nat → Nat → Int32}  (hf : f_sideOf x0 I A = some o) : FrS [] [] I A o.2.1 o.2.2 := by
  have hR : FrS [] [] I A I A := frs_0
  unfold f_sideOf at hf
  exact frs_t hR (fr_sideOf_0  hf) (fun _ h => h) (fun _ h => h)
theorem fr_step_48 {o : Int32 × MS} {t0 : Int32} {I : Nat → Int32} {A : Nat → Nat → Int32}  (hf : f_step_48 t0 I A = some o) : FrS [] [] I A o.2.1 o.2.2 := by
  have hR : FrS [] [] I A I A := frs_0
  unfold f_step_48 at hf
  cases hf
  exact hR
theorem fr_step_47 {o : Int32 × MS} {I : Nat → Int32} {A : Nat → Nat → Int32}  (hf : f_step_47 I A = some o) : FrS [] [] I A o.2.1 o.2.2 := by
  have hR : FrS [] [] I A I A := frs_0
  unfold f_step_47 at hf
  exact frs_t hR (fr_step_48  hf) (fun _ h => h) (fun _ h => h)
theorem fr_step_0 {o : Int32 × MS} {x0 : Int32} {x1 : Int32} {x2 : Int32} {I : Nat → Int32} {A : Nat → Nat → Int32}  (hf : f_step_0 x0 x1 x2 I A = some o) : FrS [] [] I A o.2.1 o.2.2 := by
  have hR : FrS [] [] I A I A := frs_0
  unfold f_step_0 at hf
  obtain ⟨v1, ev, hf⟩ := m_bndE hf
  clear ev
  obtain ⟨v2, ev, hf⟩ := m_bndE hf
  clear ev
  obtain ⟨v3, ev, hf⟩ := m_bndE hf
  clear ev
  obtain ⟨v4, ev, hf⟩ := m_bndE hf
  clear ev
  rcases m_ifE hf with ⟨-, hf⟩ | ⟨-, hf⟩
  ·
    exact frs_t hR (fr_step_47  hf) (fun _ h => h) (fun _ h => h)
  ·
    rcases m_ifE hf with ⟨-, hf⟩ | ⟨-, hf⟩
    ·
      exact frs_t hR (fr_step_47  hf) (fun _ h => h) (fun _ h => h)
    ·
      rcases m_ifE hf with ⟨-, hf⟩ | ⟨-, hf⟩
      ·
        exact frs_t hR (fr_step_47  hf) (fun _ h => h) (fun _ h => h)
      ·
        rcases m_ifE hf with ⟨-, hf⟩ | ⟨-, hf⟩
        ·
          exact frs_t hR (fr_step_47  hf) (fun _ h => h) (fun _ h => h)
        ·
          obtain ⟨v5, ev, hf⟩ := m_bndE hf
          clear ev
          obtain ⟨v6, ev, hf⟩ := m_bndE hf
          clear ev
          exact frs_t hR (fr_step_48  hf) (fun _ h => h) (fun _ h => h)
theorem fr_step {o : Int32 × MS} {x0 : Int32} {x1 : Int32} {x2 : Int32} {I : Nat → Int32} {A : Nat → Nat → Int32}  (hf : f_step x0 x1 x2 I A = some o) : FrS [] [] I A o.2.1 o.2.2 := by
  have hR : FrS [] [] I A I A := frs_0
  unfold f_step at hf
  exact frs_t hR (fr_step_0  hf) (fun _ h => h) (fun _ h => h)
theorem fr_stands_19 {o : Int32 × MS} {t0 : Int32} {I : Nat → Int32} {A : Nat → Nat → Int32}  (hf : f_stands_19 t0 I A = some o) : FrS [] [] I A o.2.1 o.2.2 := by
  have hR : FrS [] [] I A I A := frs_0
  unfold f_stands_19 at hf
  obtain ⟨-, hf⟩ := m_chkE hf
  cases hf
  exact hR
theorem fr_stands_18 {o : Int32 × MS} {I : Nat → Int32} {A : Nat → Nat → Int32}  (hf : f_stands_18 I A = some o) : FrS [] [] I A o.2.1 o.2.2 := by
  have hR : FrS [] [] I A I A := frs_0
  unfold f_stands_18 at hf
  exact frs_t hR (fr_stands_19  hf) (fun _ h => h) (fun _ h => h)
theorem fr_stands_0 {o : Int32 × MS} {x1 : Int32} {x2 : Int32} {I : Nat → Int32} {A : Nat → Nat → Int32}  (hf : f_stands_0 x1 x2 I A = some o) : FrS [] [] I A o.2.1 o.2.2 := by
  have hR : FrS [] [] I A I A := frs_0
  unfold f_stands_0 at hf
  rcases m_ifE hf with ⟨-, hf⟩ | ⟨-, hf⟩
  ·
    exact frs_t hR (fr_stands_18  hf) (fun _ h => h) (fun _ h => h)
  ·
    obtain ⟨-, hf⟩ := m_chkE hf
    obtain ⟨v1, ev, hf⟩ := m_bndE hf
    clear ev
    rcases m_ifE hf with ⟨-, hf⟩ | ⟨-, hf⟩
    ·
      exact frs_t hR (fr_stands_19  hf) (fun _ h => h) (fun _ h => h)
    ·
      exact frs_t hR (fr_stands_18  hf) (fun _ h => h) (fun _ h => h)
theorem fr_stands {o : Int32 × MS} {x1 : Int32} {x2 : Int32} {I : Nat → Int32} {A : Nat → Nat → Int32}  (hf : f_stands x1 x2 I A = some o) : FrS [] [] I A o.2.1 o.2.2 := by
  have hR : FrS [] [] I A I A := frs_0
  unfold f_stands at hf
  exact frs_t hR (fr_stands_0  hf) (fun _ h => h) (fun _ h => h)
theorem fr_met_51 {o : Int32 × MS} {t0 : Int32} {I : Nat → Int32} {A : Nat → Nat → Int32}  (hf : f_met_51 t0 I A = some o) : FrS [] [] I A o.2.1 o.2.2 := by
  have hR : FrS [] [] I A I A := frs_0
  unfold f_met_51 at hf
  cases hf
  exact hR
theorem fr_met_35 {o : Int32 × MS} {x4 : Int32} {I : Nat → Int32} {A : Nat → Nat → Int32}  (hf : f_met_35 x4 I A = some o) : FrS [] [] I A o.2.1 o.2.2 := by
  have hR : FrS [] [] I A I A := frs_0
  unfold f_met_35 at hf
  rcases m_ifE hf with ⟨-, hf⟩ | ⟨-, hf⟩
  ·
    obtain ⟨-, hf⟩ := m_chkE hf
    obtain ⟨v1, ev, hf⟩ := m_bndE hf
    clear ev
    exact frs_t hR (fr_met_51  hf) (fun _ h => h) (fun _ h => h)
  ·
    exact frs_t hR (fr_met_51  hf) (fun _ h => h) (fun _ h => h)
theorem fr_met_8s {o : Int32 × MS} {self8 : Int32 → Int32 → Int32 → (Nat → Int32) → (Nat → Nat → Int32) → Option (Int32 × MS)} {x2 : Int32} {x3 : Int32} {x4 : Int32} {I : Nat → Int32} {A : Nat → Nat → Int32} (hself8 : ∀ (z0 : Int32) (z1 : Int32) (z2 : Int32) (I : Nat → Int32) (A : Nat → Nat → Int32), self8 z0 z1 z2 I A = some o → FrS [] [] I A o.2.1 o.2.2) (hf : f_met_8s self8 x2 x3 x4 I A = some o) : FrS [] [] I A o.2.1 o.2.2 := by
  have hR : FrS [] [] I A I A := frs_0
  unfold f_met_8s at hf
  rcases m_ifE hf with ⟨-, hf⟩ | ⟨-, hf⟩
  ·
    exact frs_t hR (fr_met_35  hf) (fun _ h => h) (fun _ h => h)
  ·
    obtain ⟨-, hf⟩ := m_chkE hf
    obtain ⟨v1, ev, hf⟩ := m_bndE hf
    clear ev
    rcases m_ifE hf with ⟨-, hf⟩ | ⟨-, hf⟩
    ·
      obtain ⟨o2, ho, hf⟩ := m_clE hf
      replace hR := frs_t hR (fr_step ho) (by decide) (by decide)
      clear ho
      exact frs_t hR (hself8 _ _ _ _ _ hf) (fun _ h => h) (fun _ h => h)
    ·
      exact frs_t hR (fr_met_35  hf) (fun _ h => h) (fun _ h => h)
theorem fr_met_8 {o : Int32 × MS}   (n : Nat) : ∀ (y0 : Int32) (y1 : Int32) (y2 : Int32) (I : Nat → Int32) (A : Nat → Nat → Int32), f_met_8  n y0 y1 y2 I A = some o → FrS [] [] I A o.2.1 o.2.2 := by
  induction n with
  | zero => intro y0 y1 y2 I A hf; cases hf
  | succ n ih => intro y0 y1 y2 I A hf; exact fr_met_8s  ih hf
theorem fr_met_0 {o : Int32 × MS} {x1 : Int32} {x2 : Int32} {x3 : Int32} {I : Nat → Int32} {A : Nat → Nat → Int32}  (hf : f_met_0 x1 x2 x3 I A = some o) : FrS [] [] I A o.2.1 o.2.2 := by
  have hR : FrS [] [] I A I A := frs_0
  unfold f_met_0 at hf
  obtain ⟨o1, ho, hf⟩ := m_clE hf
  replace hR := frs_t hR (fr_step ho) (by decide) (by decide)
  clear ho
  exact frs_t hR (fr_met_8  _ _ _ _ _ _ hf) (fun _ h => h) (fun _ h => h)
theorem fr_met {o : Int32 × MS} {x1 : Int32} {x2 : Int32} {x3 : Int32} {I : Nat → Int32} {A : Nat → Nat → Int32}  (hf : f_met x1 x2 x3 I A = some o) : FrS [] [] I A o.2.1 o.2.2 := by
  have hR : FrS [] [] I A I A := frs_0
  unfold f_met at hf
  exact frs_t hR (fr_met_0  hf) (fun _ h => h) (fun _ h => h)
theorem fr_isAttacked_217 {o : Int32 × MS} {self61 : Int32 → Int32 → Int32 → Int32 → (Nat → Int32) → (Nat → Nat → Int32) → Option (Int32 × MS)} {self71 : Int32 → Int32 → Int32 → Int32 → Int32 → (Nat → Int32) → (Nat → Nat → Int32) → Option (Int32 × MS)} {x1 : Int32} {x3 : Int32} {x5 : Int32} {x6 : Int32} {x7 : Int32} {I : Nat → Int32} {A : Nat → Nat → Int32} (hself61 : ∀ (z0 : Int32) (z1 : Int32) (z2 : Int32) (z3 : Int32) (I : Nat → Int32) (A : Nat → Nat → Int32), self61 z0 z1 z2 z3 I A = some o → FrS [] [] I A o.2.1 o.2.2) (hself71 : ∀ (z0 : Int32) (z1 : Int32) (z2 : Int32) (z3 : Int32) (z4 : Int32) (I : Nat → Int32) (A : Nat → Nat → Int32), self71 z0 z1 z2 z3 z4 I A = some o → FrS [] [] I A o.2.1 o.2.2) (hf : f_isAttacked_217 self61 self71 x1 x3 x5 x6 x7 I A = some o) : FrS [] [] I A o.2.1 o.2.2 := by
  have hR : FrS [] [] I A I A := frs_0
  unfold f_isAttacked_217 at hf
  obtain ⟨v1, ev, hf⟩ := m_bndE hf
  clear ev
  exact frs_t hR (hself71 _ _ _ _ _ _ _ hf) (fun _ h => h) (fun _ h => h)
theorem fr_isAttacked_215 {o : Int32 × MS} {self61 : Int32 → Int32 → Int32 → Int32 → (Nat → Int32) → (Nat → Nat → Int32) → Option (Int32 × MS)} {self71 : Int32 → Int32 → Int32 → Int32 → Int32 → (Nat → Int32) → (Nat → Nat → Int32) → Option (Int32 × MS)} {x1 : Int32} {x3 : Int32} {x6 : Int32} {x7 : Int32} {t0 : Int32} {I : Nat → Int32} {A : Nat → Nat → Int32} (hself61 : ∀ (z0 : Int32) (z1 : Int32) (z2 : Int32) (z3 : Int32) (I : Nat → Int32) (A : Nat → Nat → Int32), self61 z0 z1 z2 z3 I A = some o → FrS [] [] I A o.2.1 o.2.2) (hself71 : ∀ (z0 : Int32) (z1 : Int32) (z2 : Int32) (z3 : Int32) (z4 : Int32) (I : Nat → Int32) (A : Nat → Nat → Int32), self71 z0 z1 z2 z3 z4 I A = some o → FrS [] [] I A o.2.1 o.2.2) (hf : f_isAttacked_215 self61 self71 x1 x3 x6 x7 t0 I A = some o) : FrS [] [] I A o.2.1 o.2.2 := by
  have hR : FrS [] [] I A I A := frs_0
  unfold f_isAttacked_215 at hf
  exact frs_t hR (fr_isAttacked_217 hself61 hself71 hf) (fun _ h => h) (fun _ h => h)
theorem fr_isAttacked_210 {o : Int32 × MS} {self61 : Int32 → Int32 → Int32 → Int32 → (Nat → Int32) → (Nat → Nat → Int32) → Option (Int32 × MS)} {self71 : Int32 → Int32 → Int32 → Int32 → Int32 → (Nat → Int32) → (Nat → Nat → Int32) → Option (Int32 × MS)} {x1 : Int32} {x3 : Int32} {x6 : Int32} {x7 : Int32} {I : Nat → Int32} {A : Nat → Nat → Int32} (hself61 : ∀ (z0 : Int32) (z1 : Int32) (z2 : Int32) (z3 : Int32) (I : Nat → Int32) (A : Nat → Nat → Int32), self61 z0 z1 z2 z3 I A = some o → FrS [] [] I A o.2.1 o.2.2) (hself71 : ∀ (z0 : Int32) (z1 : Int32) (z2 : Int32) (z3 : Int32) (z4 : Int32) (I : Nat → Int32) (A : Nat → Nat → Int32), self71 z0 z1 z2 z3 z4 I A = some o → FrS [] [] I A o.2.1 o.2.2) (hf : f_isAttacked_210 self61 self71 x1 x3 x6 x7 I A = some o) : FrS [] [] I A o.2.1 o.2.2 := by
  have hR : FrS [] [] I A I A := frs_0
  unfold f_isAttacked_210 at hf
  exact frs_t hR (fr_isAttacked_215 hself61 hself71 hf) (fun _ h => h) (fun _ h => h)
theorem fr_isAttacked_205 {o : Int32 × MS} {self61 : Int32 → Int32 → Int32 → Int32 → (Nat → Int32) → (Nat → Nat → Int32) → Option (Int32 × MS)} {self71 : Int32 → Int32 → Int32 → Int32 → Int32 → (Nat → Int32) → (Nat → Nat → Int32) → Option (Int32 × MS)} {x1 : Int32} {x3 : Int32} {x6 : Int32} {x7 : Int32} {t0 : Int32} {t1 : Int32} {I : Nat → Int32} {A : Nat → Nat → Int32} (hself61 : ∀ (z0 : Int32) (z1 : Int32) (z2 : Int32) (z3 : Int32) (I : Nat → Int32) (A : Nat → Nat → Int32), self61 z0 z1 z2 z3 I A = some o → FrS [] [] I A o.2.1 o.2.2) (hself71 : ∀ (z0 : Int32) (z1 : Int32) (z2 : Int32) (z3 : Int32) (z4 : Int32) (I : Nat → Int32) (A : Nat → Nat → Int32), self71 z0 z1 z2 z3 z4 I A = some o → FrS [] [] I A o.2.1 o.2.2) (hf : f_isAttacked_205 self61 self71 x1 x3 x6 x7 t0 t1 I A = some o) : FrS [] [] I A o.2.1 o.2.2 := by
  have hR : FrS [] [] I A I A := frs_0
  unfold f_isAttacked_205 at hf
  obtain ⟨v1, ev, hf⟩ := m_bndE hf
  clear ev
  rcases m_ifE hf with ⟨-, hf⟩ | ⟨-, hf⟩
  ·
    exact frs_t hR (fr_isAttacked_210 hself61 hself71 hf) (fun _ h => h) (fun _ h => h)
  ·
    exact frs_t hR (fr_isAttacked_215 hself61 hself71 hf) (fun _ h => h) (fun _ h => h)
theorem fr_isAttacked_168 {o : Int32 × MS} {self61 : Int32 → Int32 → Int32 → Int32 → (Nat → Int32) → (Nat → Nat → Int32) → Option (Int32 × MS)} {self71 : Int32 → Int32 → Int32 → Int32 → Int32 → (Nat → Int32) → (Nat → Nat → Int32) → Option (Int32 × MS)} {x1 : Int32} {x3 : Int32} {x5 : Int32} {x6 : Int32} {x7 : Int32} {x8 : Int32} {I : Nat → Int32} {A : Nat → Nat → Int32} (hself61 : ∀ (z0 : Int32) (z1 : Int32) (z2 : Int32) (z3 : Int32) (I : Nat → Int32) (A : Nat → Nat → Int32), self61 z0 z1 z2 z3 I A = some o → FrS [] [] I A o.2.1 o.2.2) (hself71 : ∀ (z0 : Int32) (z1 : Int32) (z2 : Int32) (z3 : Int32) (z4 : Int32) (I : Nat → Int32) (A : Nat → Nat → Int32), self71 z0 z1 z2 z3 z4 I A = some o → FrS [] [] I A o.2.1 o.2.2) (hf : f_isAttacked_168 self61 self71 x1 x3 x5 x6 x7 x8 I A = some o) : FrS [] [] I A o.2.1 o.2.2 := by
  have hR : FrS [] [] I A I A := frs_0
  unfold f_isAttacked_168 at hf
  obtain ⟨o1, ho, hf⟩ := m_clE hf
  replace hR := frs_t hR (fr_met ho) (by decide) (by decide)
  clear ho
  rcases m_ifE hf with ⟨-, hf⟩ | ⟨-, hf⟩
  ·
    obtain ⟨v2, ev, hf⟩ := m_bndE hf
    clear ev
    rcases m_ifE hf with ⟨-, hf⟩ | ⟨-, hf⟩
    ·
      exact frs_t hR (fr_isAttacked_210 hself61 hself71 hf) (fun _ h => h) (fun _ h => h)
    ·
      rcases m_ifE hf with ⟨-, hf⟩ | ⟨-, hf⟩
      ·
        exact frs_t hR (fr_isAttacked_205 hself61 hself71 hf) (fun _ h => h) (fun _ h => h)
      ·
        exact frs_t hR (fr_isAttacked_205 hself61 hself71 hf) (fun _ h => h) (fun _ h => h)
  ·
    exact frs_t hR (fr_isAttacked_210 hself61 hself71 hf) (fun _ h => h) (fun _ h => h)
theorem fr_isAttacked_154 {o : Int32 × MS} {self61 : Int32 → Int32 → Int32 → Int32 → (Nat → Int32) → (Nat → Nat → Int32) → Option (Int32 × MS)} {self71 : Int32 → Int32 → Int32 → Int32 → Int32 → (Nat → Int32) → (Nat → Nat → Int32) → Option (Int32 × MS)} {x1 : Int32} {x3 : Int32} {x6 : Int32} {x7 : Int32} {x8 : Int32} {t0 : Int32} {I : Nat → Int32} {A : Nat → Nat → Int32} (hself61 : ∀ (z0 : Int32) (z1 : Int32) (z2 : Int32) (z3 : Int32) (I : Nat → Int32) (A : Nat → Nat → Int32), self61 z0 z1 z2 z3 I A = some o → FrS [] [] I A o.2.1 o.2.2) (hself71 : ∀ (z0 : Int32) (z1 : Int32) (z2 : Int32) (z3 : Int32) (z4 : Int32) (I : Nat → Int32) (A : Nat → Nat → Int32), self71 z0 z1 z2 z3 z4 I A = some o → FrS [] [] I A o.2.1 o.2.2) (hf : f_isAttacked_154 self61 self71 x1 x3 x6 x7 x8 t0 I A = some o) : FrS [] [] I A o.2.1 o.2.2 := by
  have hR : FrS [] [] I A I A := frs_0
  unfold f_isAttacked_154 at hf
  rcases m_ifE hf with ⟨-, hf⟩ | ⟨-, hf⟩
  ·
    exact frs_t hR (fr_isAttacked_168 hself61 hself71 hf) (fun _ h => h) (fun _ h => h)
  ·
    rcases m_ifE hf with ⟨-, hf⟩ | ⟨-, hf⟩
    ·
      exact frs_t hR (fr_isAttacked_168 hself61 hself71 hf) (fun _ h => h) (fun _ h => h)
    ·
      exact frs_t hR (fr_isAttacked_217 hself61 hself71 hf) (fun _ h => h) (fun _ h => h)
theorem fr_isAttacked_149 {o : Int32 × MS} {self61 : Int32 → Int32 → Int32 → Int32 → (Nat → Int32) → (Nat → Nat → Int32) → Option (Int32 × MS)} {self71 : Int32 → Int32 → Int32 → Int32 → Int32 → (Nat → Int32) → (Nat → Nat → Int32) → Option (Int32 × MS)} {x1 : Int32} {x3 : Int32} {x6 : Int32} {x7 : Int32} {x8 : Int32} {I : Nat → Int32} {A : Nat → Nat → Int32} (hself61 : ∀ (z0 : Int32) (z1 : Int32) (z2 : Int32) (z3 : Int32) (I : Nat → Int32) (A : Nat → Nat → Int32), self61 z0 z1 z2 z3 I A = some o → FrS [] [] I A o.2.1 o.2.2) (hself71 : ∀ (z0 : Int32) (z1 : Int32) (z2 : Int32) (z3 : Int32) (z4 : Int32) (I : Nat → Int32) (A : Nat → Nat → Int32), self71 z0 z1 z2 z3 z4 I A = some o → FrS [] [] I A o.2.1 o.2.2) (hf : f_isAttacked_149 self61 self71 x1 x3 x6 x7 x8 I A = some o) : FrS [] [] I A o.2.1 o.2.2 := by
  have hR : FrS [] [] I A I A := frs_0
  unfold f_isAttacked_149 at hf
  exact frs_t hR (fr_isAttacked_154 hself61 hself71 hf) (fun _ h => h) (fun _ h => h)
theorem fr_isAttacked_153 {o : Int32 × MS} {self61 : Int32 → Int32 → Int32 → Int32 → (Nat → Int32) → (Nat → Nat → Int32) → Option (Int32 × MS)} {self71 : Int32 → Int32 → Int32 → Int32 → Int32 → (Nat → Int32) → (Nat → Nat → Int32) → Option (Int32 × MS)} {x1 : Int32} {x3 : Int32} {x6 : Int32} {x7 : Int32} {x8 : Int32} {I : Nat → Int32} {A : Nat → Nat → Int32} (hself61 : ∀ (z0 : Int32) (z1 : Int32) (z2 : Int32) (z3 : Int32) (I : Nat → Int32) (A : Nat → Nat → Int32), self61 z0 z1 z2 z3 I A = some o → FrS [] [] I A o.2.1 o.2.2) (hself71 : ∀ (z0 : Int32) (z1 : Int32) (z2 : Int32) (z3 : Int32) (z4 : Int32) (I : Nat → Int32) (A : Nat → Nat → Int32), self71 z0 z1 z2 z3 z4 I A = some o → FrS [] [] I A o.2.1 o.2.2) (hf : f_isAttacked_153 self61 self71 x1 x3 x6 x7 x8 I A = some o) : FrS [] [] I A o.2.1 o.2.2 := by
  have hR : FrS [] [] I A I A := frs_0
  unfold f_isAttacked_153 at hf
  exact frs_t hR (fr_isAttacked_154 hself61 hself71 hf) (fun _ h => h) (fun _ h => h)
theorem fr_isAttacked_119 {o : Int32 × MS} {self61 : Int32 → Int32 → Int32 → Int32 → (Nat → Int32) → (Nat → Nat → Int32) → Option (Int32 × MS)} {self71 : Int32 → Int32 → Int32 → Int32 → Int32 → (Nat → Int32) → (Nat → Nat → Int32) → Option (Int32 × MS)} {x1 : Int32} {x3 : Int32} {x6 : Int32} {x7 : Int32} {x8 : Int32} {I : Nat → Int32} {A : Nat → Nat → Int32} (hself61 : ∀ (z0 : Int32) (z1 : Int32) (z2 : Int32) (z3 : Int32) (I : Nat → Int32) (A : Nat → Nat → Int32), self61 z0 z1 z2 z3 I A = some o → FrS [] [] I A o.2.1 o.2.2) (hself71 : ∀ (z0 : Int32) (z1 : Int32) (z2 : Int32) (z3 : Int32) (z4 : Int32) (I : Nat → Int32) (A : Nat → Nat → Int32), self71 z0 z1 z2 z3 z4 I A = some o → FrS [] [] I A o.2.1 o.2.2) (hf : f_isAttacked_119 self61 self71 x1 x3 x6 x7 x8 I A = some o) : FrS [] [] I A o.2.1 o.2.2 := by
  have hR : FrS [] [] I A I A := frs_0
  unfold f_isAttacked_119 at hf
  rcases m_ifE hf with ⟨-, hf⟩ | ⟨-, hf⟩
  ·
    exact frs_t hR (fr_isAttacked_153 hself61 hself71 hf) (fun _ h => h) (fun _ h => h)
  ·
    rcases m_ifE hf with ⟨-, hf⟩ | ⟨-, hf⟩
    ·
      exact frs_t hR (fr_isAttacked_153 hself61 hself71 hf) (fun _ h => h) (fun _ h => h)
    ·
      obtain ⟨o1, ho, hf⟩ := m_clE hf
      replace hR := frs_t hR (fr_step ho) (by decide) (by decide)
      clear ho
      obtain ⟨v2, ev, hf⟩ := m_bndE hf
      clear ev
      obtain ⟨o3, ho, hf⟩ := m_clE hf
      replace hR := frs_t hR (fr_stands ho) (by decide) (by decide)
      clear ho
      rcases m_ifE hf with ⟨-, hf⟩ | ⟨-, hf⟩
      ·
        exact frs_t hR (fr_isAttacked_153 hself61 hself71 hf) (fun _ h => h) (fun _ h => h)
      ·
        exact frs_t hR (fr_isAttacked_149 hself61 hself71 hf) (fun _ h => h) (fun _ h => h)
theorem fr_isAttacked_71s {o : Int32 × MS} {self61 : Int32 → Int32 → Int32 → Int32 → (Nat → Int32) → (Nat → Nat → Int32) → Option (Int32 × MS)} {self71 : Int32 → Int32 → Int32 → Int32 → Int32 → (Nat → Int32) → (Nat → Nat → Int32) → Option (Int32 × MS)} {x1 : Int32} {x3 : Int32} {x5 : Int32} {x6 : Int32} {x7 : Int32} {I : Nat → Int32} {A : Nat → Nat → Int32} (hself61 : ∀ (z0 : Int32) (z1 : Int32) (z2 : Int32) (z3 : Int32) (I : Nat → Int32) (A : Nat → Nat → Int32), self61 z0 z1 z2 z3 I A = some o → FrS [] [] I A o.2.1 o.2.2) (hself71 : ∀ (z0 : Int32) (z1 : Int32) (z2 : Int32) (z3 : Int32) (z4 : Int32) (I : Nat → Int32) (A : Nat → Nat → Int32), self71 z0 z1 z2 z3 z4 I A = some o → FrS [] [] I A o.2.1 o.2.2) (hf : f_isAttacked_71s self61 self71 x1 x3 x5 x6 x7 I A = some o) : FrS [] [] I A o.2.1 o.2.2 := by
  have hR : FrS [] [] I A I A := frs_0
  unfold f_isAttacked_71s at hf
  rcases m_ifE hf with ⟨-, hf⟩ | ⟨-, hf⟩
  ·
    obtain ⟨v1, ev, hf⟩ := m_bndE hf
    clear ev
    exact frs_t hR (hself61 _ _ _ _ _ _ hf) (fun _ h => h) (fun _ h => h)
  ·
    obtain ⟨v2, ev, hf⟩ := m_bndE hf
    clear ev
    obtain ⟨v3, ev, hf⟩ := m_bndE hf
    clear ev
    obtain ⟨v4, ev, hf⟩ := m_bndE hf
    clear ev
    rcases m_ifE hf with ⟨-, hf⟩ | ⟨-, hf⟩
    ·
      rcases m_ifE hf with ⟨-, hf⟩ | ⟨-, hf⟩
      ·
        obtain ⟨o5, ho, hf⟩ := m_clE hf
        replace hR := frs_t hR (fr_step ho) (by decide) (by decide)
        clear ho
        obtain ⟨v6, ev, hf⟩ := m_bndE hf
        clear ev
        obtain ⟨o7, ho, hf⟩ := m_clE hf
        replace hR := frs_t hR (fr_stands ho) (by decide) (by decide)
        clear ho
        rcases m_ifE hf with ⟨-, hf⟩ | ⟨-, hf⟩
        ·
          exact frs_t hR (fr_isAttacked_119 hself61 hself71 hf) (fun _ h => h) (fun _ h => h)
        ·
          exact frs_t hR (fr_isAttacked_149 hself61 hself71 hf) (fun _ h => h) (fun _ h => h)
      ·
        exact frs_t hR (fr_isAttacked_119 hself61 hself71 hf) (fun _ h => h) (fun _ h => h)
    ·
      exact frs_t hR (fr_isAttacked_149 hself61 hself71 hf) (fun _ h => h) (fun _ h => h)
theorem fr_isAttacked_71 {o : Int32 × MS} {self61 : Int32 → Int32 → Int32 → Int32 → (Nat → Int32) → (Nat → Nat → Int32) → Option (Int32 × MS)} (hself61 : ∀ (z0 : Int32) (z1 : Int32) (z2 : Int32) (z3 : Int32) (I : Nat → Int32) (A : Nat → Nat → Int32), self61 z0 z1 z2 z3 I A = some o → FrS [] [] I A o.2.1 o.2.2) (n : Nat) : ∀ (y0 : Int32) (y1 : Int32) (y2 : Int32) (y3 : Int32) (y4 : Int32) (I : Nat → Int32) (A : Nat → Nat → Int32), f_isAttacked_71 self61 n y0 y1 y2 y3 y4 I A = some o → FrS [] [] I A o.2.1 o.2.2 := by
  induction n with
  | zero => intro y0 y1 y2 y3 y4 I A hf; cases hf
  | succ n ih => intro y0 y1 y2 y3 y4 I A hf; exact fr_isAttacked_71s hself61 ih hf
theorem fr_isAttacked_61s {o : Int32 × MS} {self61 : Int32 → Int32 → Int32 → Int32 → (Nat → Int32) → (Nat → Nat → Int32) → Option (Int32 × MS)} {x1 : Int32} {x3 : Int32} {x5 : Int32} {x6 : Int32} {I : Nat → Int32} {A : Nat → Nat → Int32} (hself61 : ∀ (z0 : Int32) (z1 : Int32) (z2 : Int32) (z3 : Int32) (I : Nat → Int32) (A : Nat → Nat → Int32), self61 z0 z1 z2 z3 I A = some o → FrS [] [] I A o.2.1 o.2.2) (hf : f_isAttacked_61s self61 x1 x3 x5 x6 I A = some o) : FrS [] [] I A o.2.1 o.2.2 := by
  have hR : FrS [] [] I A I A := frs_0
  unfold f_isAttacked_61s at hf
  rcases m_ifE hf with ⟨-, hf⟩ | ⟨-, hf⟩
  ·
    obtain ⟨-, hf⟩ := m_chkE hf
    cases hf
    exact hR
  ·
    exact frs_t hR (fr_isAttacked_71 hself61 _ _ _ _ _ _ _ _ hf) (fun _ h => h) (fun _ h => h)
theorem fr_isAttacked_61 {o : Int32 × MS}   (n : Nat) : ∀ (y0 : Int32) (y1 : Int32) (y2 : Int32) (y3 : Int32) (I : Nat → Int32) (A : Nat → Nat → Int32), f_isAttacked_61  n y0 y1 y2 y3 I A = some o → FrS [] [] I A o.2.1 o.2.2 := by
  induction n with
  | zero => intro y0 y1 y2 y3 I A hf; cases hf
  | succ n ih => intro y0 y1 y2 y3 I A hf; exact fr_isAttacked_61s  ih hf
theorem fr_isAttacked_55 {o : Int32 × MS} {x1 : Int32} {x3 : Int32} {t0 : Int32} {I : Nat → Int32} {A : Nat → Nat → Int32}  (hf : f_isAttacked_55 x1 x3 t0 I A = some o) : FrS [] [] I A o.2.1 o.2.2 := by
  have hR : FrS [] [] I A I A := frs_0
  unfold f_isAttacked_55 at hf
  exact frs_t hR (fr_isAttacked_61  _ _ _ _ _ _ _ hf) (fun _ h => h) (fun _ h => h)
theorem fr_isAttacked_50 {o : Int32 × MS} {x1 : Int32} {x3 : Int32} {I : Nat → Int32} {A : Nat → Nat → Int32}  (hf : f_isAttacked_50 x1 x3 I A = some o) : FrS [] [] I A o.2.1 o.2.2 := by
  have hR : FrS [] [] I A I A := frs_0
  unfold f_isAttacked_50 at hf
  exact frs_t hR (fr_isAttacked_55  hf) (fun _ h => h) (fun _ h => h)
theorem fr_isAttacked_14 {o : Int32 × MS} {x1 : Int32} {x3 : Int32} {t0 : Int32} {I : Nat → Int32} {A : Nat → Nat → Int32}  (hf : f_isAttacked_14 x1 x3 t0 I A = some o) : FrS [] [] I A o.2.1 o.2.2 := by
  have hR : FrS [] [] I A I A := frs_0
  unfold f_isAttacked_14 at hf
  obtain ⟨o1, ho, hf⟩ := m_clE hf
  replace hR := frs_t hR (fr_step ho) (by decide) (by decide)
  clear ho
  obtain ⟨v2, ev, hf⟩ := m_bndE hf
  clear ev
  obtain ⟨o3, ho, hf⟩ := m_clE hf
  replace hR := frs_t hR (fr_stands ho) (by decide) (by decide)
  clear ho
  rcases m_ifE hf with ⟨-, hf⟩ | ⟨-, hf⟩
  ·
    obtain ⟨o4, ho, hf⟩ := m_clE hf
    replace hR := frs_t hR (fr_step ho) (by decide) (by decide)
    clear ho
    obtain ⟨v5, ev, hf⟩ := m_bndE hf
    clear ev
    obtain ⟨o6, ho, hf⟩ := m_clE hf
    replace hR := frs_t hR (fr_stands ho) (by decide) (by decide)
    clear ho
    rcases m_ifE hf with ⟨-, hf⟩ | ⟨-, hf⟩
    ·
      exact frs_t hR (fr_isAttacked_55  hf) (fun _ h => h) (fun _ h => h)
    ·
      exact frs_t hR (fr_isAttacked_50  hf) (fun _ h => h) (fun _ h => h)
  ·
    exact frs_t hR (fr_isAttacked_50  hf) (fun _ h => h) (fun _ h => h)
theorem fr_isAttacked_0 {o : Int32 × MS} {x1 : Int32} {x2 : Int32} {I : Nat → Int32} {A : Nat → Nat → Int32}  (hf : f_isAttacked_0 x1 x2 I A = some o) : FrS [] [] I A o.2.1 o.2.2 := by
  have hR : FrS [] [] I A I A := frs_0
  unfold f_isAttacked_0 at hf
  obtain ⟨v1, ev, hf⟩ := m_bndE hf
  clear ev
  rcases m_ifE hf with ⟨-, hf⟩ | ⟨-, hf⟩
  ·
    exact frs_t hR (fr_isAttacked_14  hf) (fun _ h => h) (fun _ h => h)
  ·
    exact frs_t hR (fr_isAttacked_14  hf) (fun _ h => h) (fun _ h => h)
theorem fr_isAttacked {o : Int32 × MS} {x1 : Int32} {x2 : Int32} {I : Nat → Int32} {A : Nat → Nat → Int32}  (hf : f_isAttacked x1 x2 I A = some o) : FrS [] [] I A o.2.1 o.2.2 := by
  have hR : FrS [] [] I A I A := frs_0
  unfold f_isAttacked at hf
  exact frs_t hR (fr_isAttacked_0  hf) (fun _ h => h) (fun _ h => h)
theorem fr_kingOf_31 {o : Int32 × MS} {self4 : Int32 → Int32 → Int32 → (Nat → Int32) → (Nat → Nat → Int32) → Option (Int32 × MS)} {x1 : Int32} {x3 : Int32} {t0 : Int32} {I : Nat → Int32} {A : Nat → Nat → Int32} (hself4 : ∀ (z0 : Int32) (z1 : Int32) (z2 : Int32) (I : Nat → Int32) (A : Nat → Nat → Int32), self4 z0 z1 z2 I A = some o → FrS [] [] I A o.2.1 o.2.2) (hf : f_kingOf_31 self4 x1 x3 t0 I A = some o) : FrS [] [] I A o.2.1 o.2.2 := by
  have hR : FrS [] [] I A I A := frs_0
  unfold f_kingOf_31 at hf
  obtain ⟨v1, ev, hf⟩ := m_bndE hf
  clear ev
  exact frs_t hR (hself4 _ _ _ _ _ hf) (fun _ h => h) (fun _ h => h)
theorem fr_kingOf_4s {o : Int32 × MS} {self4 : Int32 → Int32 → Int32 → (Nat → Int32) → (Nat → Nat → Int32) → Option (Int32 × MS)} {x1 : Int32} {x2 : Int32} {x3 : Int32} {I : Nat → Int32} {A : Nat → Nat → Int32} (hself4 : ∀ (z0 : Int32) (z1 : Int32) (z2 : Int32) (I : Nat → Int32) (A : Nat → Nat → Int32), self4 z0 z1 z2 I A = some o → FrS [] [] I A o.2.1 o.2.2) (hf : f_kingOf_4s self4 x1 x2 x3 I A = some o) : FrS [] [] I A o.2.1 o.2.2 := by
  have hR : FrS [] [] I A I A := frs_0
  unfold f_kingOf_4s at hf
  rcases m_ifE hf with ⟨-, hf⟩ | ⟨-, hf⟩
  ·
    cases hf
    exact hR
  ·
    obtain ⟨-, hf⟩ := m_chkE hf
    obtain ⟨v1, ev, hf⟩ := m_bndE hf
    clear ev
    obtain ⟨v2, ev, hf⟩ := m_bndE hf
    clear ev
    obtain ⟨v3, ev, hf⟩ := m_bndE hf
    clear ev
    rcases m_ifE hf with ⟨-, hf⟩ | ⟨-, hf⟩
    ·
      exact frs_t hR (fr_kingOf_31 hself4 hf) (fun _ h => h) (fun _ h => h)
    ·
      exact frs_t hR (fr_kingOf_31 hself4 hf) (fun _ h => h) (fun _ h => h)
theorem fr_kingOf_4 {o : Int32 × MS}   (n : Nat) : ∀ (y0 : Int32) (y1 : Int32) (y2 : Int32) (I : Nat → Int32) (A : Nat → Nat → Int32), f_kingOf_4  n y0 y1 y2 I A = some o → FrS [] [] I A o.2.1 o.2.2 := by
  induction n with
  | zero => intro y0 y1 y2 I A hf; cases hf
  | succ n ih => intro y0 y1 y2 I A hf; exact fr_kingOf_4s  ih hf
theorem fr_kingOf_0 {o : Int32 × MS} {x1 : Int32} {I : Nat → Int32} {A : Nat → Nat → Int32}  (hf : f_kingOf_0 x1 I A = some o) : FrS [] [] I A o.2.1 o.2.2 := by
  have hR : FrS [] [] I A I A := frs_0
  unfold f_kingOf_0 at hf
  exact frs_t hR (fr_kingOf_4  _ _ _ _ _ _ hf) (fun _ h => h) (fun _ h => h)
theorem fr_kingOf {o : Int32 × MS} {x1 : Int32} {I : Nat → Int32} {A : Nat → Nat → Int32}  (hf : f_kingOf x1 I A = some o) : FrS [] [] I A o.2.1 o.2.2 := by
  have hR : FrS [] [] I A I A := frs_0
  unfold f_kingOf at hf
  exact frs_t hR (fr_kingOf_0  hf) (fun _ h => h) (fun _ h => h)
theorem fr_isInCheck_0 {o : Int32 × MS} {x1 : Int32} {I : Nat → Int32} {A : Nat → Nat → Int32}  (hf : f_isInCheck_0 x1 I A = some o) : FrS [] [] I A o.2.1 o.2.2 := by
  have hR : FrS [] [] I A I A := frs_0
  unfold f_isInCheck_0 at hf
  obtain ⟨o1, ho, hf⟩ := m_clE hf
  replace hR := frs_t hR (fr_kingOf ho) (by decide) (by decide)
  clear ho
  obtain ⟨v2, ev, hf⟩ := m_bndE hf
  clear ev
  obtain ⟨o3, ho, hf⟩ := m_clE hf
  replace hR := frs_t hR (fr_isAttacked ho) (by decide) (by decide)
  clear ho
  obtain ⟨-, hf⟩ := m_chkE hf
  cases hf
  exact hR
theorem fr_isInCheck {o : Int32 × MS} {x1 : Int32} {I : Nat → Int32} {A : Nat → Nat → Int32}  (hf : f_isInCheck x1 I A = some o) : FrS [] [] I A o.2.1 o.2.2 := by
  have hR : FrS [] [] I A I A := frs_0
  unfold f_isInCheck at hf
  exact frs_t hR (fr_isInCheck_0  hf) (fun _ h => h) (fun _ h => h)
theorem fr_lose_60 {o : Int32 × MS} {t0 : Int32} {I : Nat → Int32} {A : Nat → Nat → Int32}  (hf : f_lose_60 t0 I A = some o) : FrS [26] [] I A o.2.1 o.2.2 := by
  have hR : FrS [26] [] I A I A := frs_0
  unfold f_lose_60 at hf
  obtain ⟨v1, ev, hf⟩ := m_bndE hf
  clear ev
  obtain ⟨v2, ev, hf⟩ := m_bndE hf
  clear ev
  obtain ⟨I3, ev, hf⟩ := m_bndE hf
  replace hR := frs_I hR (by decide) ev
  clear ev
  cases hf
  exact hR
theorem fr_lose_0 {o : Int32 × MS} {x1 : Int32} {I : Nat → Int32} {A : Nat → Nat → Int32}  (hf : f_lose_0 x1 I A = some o) : FrS [26] [] I A o.2.1 o.2.2 := by
  have hR : FrS [26] [] I A I A := frs_0
  unfold f_lose_0 at hf
  rcases m_ifE hf with ⟨-, hf⟩ | ⟨-, hf⟩
  ·
    exact frs_t hR (fr_lose_60  hf) (fun _ h => h) (fun _ h => h)
  ·
    rcases m_ifE hf with ⟨-, hf⟩ | ⟨-, hf⟩
    ·
      exact frs_t hR (fr_lose_60  hf) (fun _ h => h) (fun _ h => h)
    ·
      rcases m_ifE hf with ⟨-, hf⟩ | ⟨-, hf⟩
      ·
        exact frs_t hR (fr_lose_60  hf) (fun _ h => h) (fun _ h => h)
      ·
        rcases m_ifE hf with ⟨-, hf⟩ | ⟨-, hf⟩
        ·
          exact frs_t hR (fr_lose_60  hf) (fun _ h => h) (fun _ h => h)
        ·
          rcases m_ifE hf with ⟨-, hf⟩ | ⟨-, hf⟩
          ·
            exact frs_t hR (fr_lose_60  hf) (fun _ h => h) (fun _ h => h)
          ·
            rcases m_ifE hf with ⟨-, hf⟩ | ⟨-, hf⟩
            ·
              exact frs_t hR (fr_lose_60  hf) (fun _ h => h) (fun _ h => h)
            ·
              exact frs_t hR (fr_lose_60  hf) (fun _ h => h) (fun _ h => h)
theorem fr_lose {o : Int32 × MS} {x1 : Int32} {I : Nat → Int32} {A : Nat → Nat → Int32}  (hf : f_lose x1 I A = some o) : FrS [26] [] I A o.2.1 o.2.2 := by
  have hR : FrS [26] [] I A I A := frs_0
  unfold f_lose at hf
  exact frs_t hR (fr_lose_0  hf) (fun _ h => h) (fun _ h => h)
theorem fr_isTaking_51 {o : Int32 × MS} {t0 : Int32} {I : Nat → Int32} {A : Nat → Nat → Int32}  (hf : f_isTaking_51 t0 I A = some o) : FrS [] [] I A o.2.1 o.2.2 := by
  have hR : FrS [] [] I A I A := frs_0
  unfold f_isTaking_51 at hf
  obtain ⟨-, hf⟩ := m_chkE hf
  cases hf
  exact hR
theorem fr_isTaking_46 {o : Int32 × MS} {I : Nat → Int32} {A : Nat → Nat → Int32}  (hf : f_isTaking_46 I A = some o) : FrS [] [] I A o.2.1 o.2.2 := by
  have hR : FrS [] [] I A I A := frs_0
  unfold f_isTaking_46 at hf
  exact frs_t hR (fr_isTaking_51  hf) (fun _ h => h) (fun _ h => h)
theorem fr_isTaking_50 {o : Int32 × MS} {I : Nat → Int32} {A : Nat → Nat → Int32}  (hf : f_isTaking_50 I A = some o) : FrS [] [] I A o.2.1 o.2.2 := by
  have hR : FrS [] [] I A I A := frs_0
  unfold f_isTaking_50 at hf
  exact frs_t hR (fr_isTaking_51  hf) (fun _ h => h) (fun _ h => h)
theorem fr_isTaking_0 {o : Int32 × MS} {x1 : Int32} {I : Nat → Int32} {A : Nat → Nat → Int32}  (hf : f_isTaking_0 x1 I A = some o) : FrS [] [] I A o.2.1 o.2.2 := by
  have hR : FrS [] [] I A I A := frs_0
  unfold f_isTaking_0 at hf
  obtain ⟨v1, ev, hf⟩ := m_bndE hf
  clear ev
  obtain ⟨v2, ev, hf⟩ := m_bndE hf
  clear ev
  obtain ⟨v3, ev, hf⟩ := m_bndE hf
  clear ev
  obtain ⟨-, hf⟩ := m_chkE hf
  obtain ⟨v4, ev, hf⟩ := m_bndE hf
  clear ev
  rcases m_ifE hf with ⟨-, hf⟩ | ⟨-, hf⟩
  ·
    obtain ⟨-, hf⟩ := m_chkE hf
    obtain ⟨v5, ev, hf⟩ := m_bndE hf
    clear ev
    obtain ⟨o6, ho, hf⟩ := m_clE hf
    replace hR := frs_t hR (fr_kind ho) (by decide) (by decide)
    clear ho
    rcases m_ifE hf with ⟨-, hf⟩ | ⟨-, hf⟩
    ·
      obtain ⟨v7, ev, hf⟩ := m_bndE hf
      clear ev
      obtain ⟨v8, ev, hf⟩ := m_bndE hf
      clear ev
      rcases m_ifE hf with ⟨-, hf⟩ | ⟨-, hf⟩
      ·
        exact frs_t hR (fr_isTaking_50  hf) (fun _ h => h) (fun _ h => h)
      ·
        exact frs_t hR (fr_isTaking_46  hf) (fun _ h => h) (fun _ h => h)
    ·
      exact frs_t hR (fr_isTaking_50  hf) (fun _ h => h) (fun _ h => h)
  ·
    exact frs_t hR (fr_isTaking_46  hf) (fun _ h => h) (fun _ h => h)
theorem fr_isTaking {o : Int32 × MS} {x1 : Int32} {I : Nat → Int32} {A : Nat → Nat → Int32}  (hf : f_isTaking x1 I A = some o) : FrS [] [] I A o.2.1 o.2.2 := by
  have hR : FrS [] [] I A I A := frs_0
  unfold f_isTaking at hf
  exact frs_t hR (fr_isTaking_0  hf) (fun _ h => h) (fun _ h => h)
theorem fr_make_319 {o : Int32 × MS} {I : Nat → Int32} {A : Nat → Nat → Int32}  (hf : f_make_319 I A = some o) : FrS [25, 26, 27, 28, 29] [24] I A o.2.1 o.2.2 := by
  have hR : FrS [25, 26, 27, 28, 29] [24] I A I A := frs_0
  unfold f_make_319 at hf
  obtain ⟨v1, ev, hf⟩ := m_bndE hf
  clear ev
  obtain ⟨I2, ev, hf⟩ := m_bndE hf
  replace hR := frs_I hR (by decide) ev
  clear ev
  obtain ⟨v3, ev, hf⟩ := m_bndE hf
  clear ev
  obtain ⟨I4, ev, hf⟩ := m_bndE hf
  replace hR := frs_I hR (by decide) ev
  clear ev
  cases hf
  exact hR
theorem fr_make_316 {o : Int32 × MS} {t0 : Int32} {I : Nat → Int32} {A : Nat → Nat → Int32}  (hf : f_make_316 t0 I A = some o) : FrS [25, 26, 27, 28, 29] [24] I A o.2.1 o.2.2 := by
  have hR : FrS [25, 26, 27, 28, 29] [24] I A I A := frs_0
  unfold f_make_316 at hf
  obtain ⟨I1, ev, hf⟩ := m_bndE hf
  replace hR := frs_I hR (by decide) ev
  clear ev
  exact frs_t hR (fr_make_319  hf) (fun _ h => h) (fun _ h => h)
theorem fr_make_307 {o : Int32 × MS} {x2 : Int32} {x3 : Int32} {I : Nat → Int32} {A : Nat → Nat → Int32}  (hf : f_make_307 x2 x3 I A = some o) : FrS [25, 26, 27, 28, 29] [24] I A o.2.1 o.2.2 := by
  have hR : FrS [25, 26, 27, 28, 29] [24] I A I A := frs_0
  unfold f_make_307 at hf
  obtain ⟨v1, ev, hf⟩ := m_bndE hf
  clear ev
  obtain ⟨v2, ev, hf⟩ := m_bndE hf
  clear ev
  exact frs_t hR (fr_make_316  hf) (fun _ h => h) (fun _ h => h)
theorem fr_make_263 {o : Int32 × MS} {x2 : Int32} {x3 : Int32} {I : Nat → Int32} {A : Nat → Nat → Int32}  (hf : f_make_263 x2 x3 I A = some o) : FrS [25, 26, 27, 28, 29] [24] I A o.2.1 o.2.2 := by
  have hR : FrS [25, 26, 27, 28, 29] [24] I A I A := frs_0
  unfold f_make_263 at hf
  obtain ⟨v1, ev, hf⟩ := m_bndE hf
  clear ev
  obtain ⟨v2, ev, hf⟩ := m_bndE hf
  clear ev
  obtain ⟨v3, ev, hf⟩ := m_bndE hf
  clear ev
  obtain ⟨o4, ho, hf⟩ := m_clE hf
  replace hR := frs_t hR (fr_step ho) (by decide) (by decide)
  clear ho
  obtain ⟨o5, ho, hf⟩ := m_clE hf
  replace hR := frs_t hR (fr_stands ho) (by decide) (by decide)
  clear ho
  rcases m_ifE hf with ⟨-, hf⟩ | ⟨-, hf⟩
  ·
    obtain ⟨o6, ho, hf⟩ := m_clE hf
    replace hR := frs_t hR (fr_step ho) (by decide) (by decide)
    clear ho
    obtain ⟨o7, ho, hf⟩ := m_clE hf
    replace hR := frs_t hR (fr_stands ho) (by decide) (by decide)
    clear ho
    rcases m_ifE hf with ⟨-, hf⟩ | ⟨-, hf⟩
    ·
      exact frs_t hR (fr_make_316  hf) (fun _ h => h) (fun _ h => h)
    ·
      exact frs_t hR (fr_make_307  hf) (fun _ h => h) (fun _ h => h)
  ·
    exact frs_t hR (fr_make_307  hf) (fun _ h => h) (fun _ h => h)
theorem fr_make_226 {o : Int32 × MS} {x2 : Int32} {x3 : Int32} {x6 : Int32} {t0 : Int32} {t1 : Int32} {I : Nat → Int32} {A : Nat → Nat → Int32}  (hf : f_make_226 x2 x3 x6 t0 t1 I A = some o) : FrS [25, 26, 27, 28, 29] [24] I A o.2.1 o.2.2 := by
  have hR : FrS [25, 26, 27, 28, 29] [24] I A I A := frs_0
  unfold f_make_226 at hf
  obtain ⟨-, hf⟩ := m_chkE hf
  obtain ⟨A1, ev, hf⟩ := m_bndE hf
  replace hR := frs_A hR (by decide) ev
  clear ev
  obtain ⟨o2, ho, hf⟩ := m_clE hf
  replace hR := frs_t hR (fr_lose ho) (by decide) (by decide)
  clear ho
  obtain ⟨o3, ho, hf⟩ := m_clE hf
  replace hR := frs_t hR (fr_lose ho) (by decide) (by decide)
  clear ho
  obtain ⟨I4, ev, hf⟩ := m_bndE hf
  replace hR := frs_I hR (by decide) ev
  clear ev
  rcases m_ifE hf with ⟨-, hf⟩ | ⟨-, hf⟩
  ·
    exact frs_t hR (fr_make_319  hf) (fun _ h => h) (fun _ h => h)
  ·
    obtain ⟨v5, ev, hf⟩ := m_bndE hf
    clear ev
    rcases m_ifE hf with ⟨-, hf⟩ | ⟨-, hf⟩
    ·
      exact frs_t hR (fr_make_263  hf) (fun _ h => h) (fun _ h => h)
    ·
      obtain ⟨v6, ev, hf⟩ := m_bndE hf
      clear ev
      rcases m_ifE hf with ⟨-, hf⟩ | ⟨-, hf⟩
      ·
        exact frs_t hR (fr_make_263  hf) (fun _ h => h) (fun _ h => h)
      ·
        exact frs_t hR (fr_make_319  hf) (fun _ h => h) (fun _ h => h)
theorem fr_make_194 {o : Int32 × MS} {x2 : Int32} {x3 : Int32} {x4 : Int32} {x5 : Int32} {x6 : Int32} {I : Nat → Int32} {A : Nat → Nat → Int32}  (hf : f_make_194 x2 x3 x4 x5 x6 I A = some o) : FrS [25, 26, 27, 28, 29] [24] I A o.2.1 o.2.2 := by
  have hR : FrS [25, 26, 27, 28, 29] [24] I A I A := frs_0
  unfold f_make_194 at hf
  obtain ⟨-, hf⟩ := m_chkE hf
  obtain ⟨A1, ev, hf⟩ := m_bndE hf
  replace hR := frs_A hR (by decide) ev
  clear ev
  rcases m_ifE hf with ⟨-, hf⟩ | ⟨-, hf⟩
  ·
    exact frs_t hR (fr_make_226  hf) (fun _ h => h) (fun _ h => h)
  ·
    obtain ⟨v2, ev, hf⟩ := m_bndE hf
    clear ev
    obtain ⟨v3, ev, hf⟩ := m_bndE hf
    clear ev
    exact frs_t hR (fr_make_226  hf) (fun _ h => h) (fun _ h => h)
theorem fr_make_167 {o : Int32 × MS} {x2 : Int32} {x3 : Int32} {x4 : Int32} {x5 : Int32} {x6 : Int32} {t0 : Int32} {I : Nat → Int32} {A : Nat → Nat → Int32}  (hf : f_make_167 x2 x3 x4 x5 x6 t0 I A = some o) : FrS [25, 26, 27, 28, 29] [24] I A o.2.1 o.2.2 := by
  have hR : FrS [25, 26, 27, 28, 29] [24] I A I A := frs_0
  unfold f_make_167 at hf
  obtain ⟨v1, ev, hf⟩ := m_bndE hf
  clear ev
  obtain ⟨v2, ev, hf⟩ := m_bndE hf
  clear ev
  obtain ⟨-, hf⟩ := m_chkE hf
  obtain ⟨v3, ev, hf⟩ := m_bndE hf
  clear ev
  obtain ⟨-, hf⟩ := m_chkE hf
  obtain ⟨A4, ev, hf⟩ := m_bndE hf
  replace hR := frs_A hR (by decide) ev
  clear ev
  obtain ⟨-, hf⟩ := m_chkE hf
  obtain ⟨A5, ev, hf⟩ := m_bndE hf
  replace hR := frs_A hR (by decide) ev
  clear ev
  exact frs_t hR (fr_make_194  hf) (fun _ h => h) (fun _ h => h)
theorem fr_make_149 {o : Int32 × MS} {x2 : Int32} {x3 : Int32} {x4 : Int32} {x5 : Int32} {x6 : Int32} {I : Nat → Int32} {A : Nat → Nat → Int32}  (hf : f_make_149 x2 x3 x4 x5 x6 I A = some o) : FrS [25, 26, 27, 28, 29] [24] I A o.2.1 o.2.2 := by
  have hR : FrS [25, 26, 27, 28, 29] [24] I A I A := frs_0
  unfold f_make_149 at hf
  obtain ⟨v1, ev, hf⟩ := m_bndE hf
  clear ev
  rcases m_ifE hf with ⟨-, hf⟩ | ⟨-, hf⟩
  ·
    obtain ⟨v3, ev, hf⟩ := m_bndE hf
    clear ev
    exact frs_t hR (fr_make_167  hf) (fun _ h => h) (fun _ h => h)
  ·
    obtain ⟨v2, ev, hf⟩ := m_bndE hf
    clear ev
    exact frs_t hR (fr_make_167  hf) (fun _ h => h) (fun _ h => h)
theorem fr_make_114 {o : Int32 × MS} {x2 : Int32} {x3 : Int32} {x4 : Int32} {x5 : Int32} {x6 : Int32} {I : Nat → Int32} {A : Nat → Nat → Int32}  (hf : f_make_114 x2 x3 x4 x5 x6 I A = some o) : FrS [25, 26, 27, 28, 29] [24] I A o.2.1 o.2.2 := by
  have hR : FrS [25, 26, 27, 28, 29] [24] I A I A := frs_0
  unfold f_make_114 at hf
  obtain ⟨o1, ho, hf⟩ := m_clE hf
  replace hR := frs_t hR (fr_kind ho) (by decide) (by decide)
  clear ho
  rcases m_ifE hf with ⟨-, hf⟩ | ⟨-, hf⟩
  ·
    obtain ⟨v2, ev, hf⟩ := m_bndE hf
    clear ev
    rcases m_ifE hf with ⟨-, hf⟩ | ⟨-, hf⟩
    ·
      obtain ⟨v3, ev, hf⟩ := m_bndE hf
      clear ev
      rcases m_ifE hf with ⟨-, hf⟩ | ⟨-, hf⟩
      ·
        exact frs_t hR (fr_make_149  hf) (fun _ h => h) (fun _ h => h)
      ·
        obtain ⟨v4, ev, hf⟩ := m_bndE hf
        clear ev
        rcases m_ifE hf with ⟨-, hf⟩ | ⟨-, hf⟩
        ·
          exact frs_t hR (fr_make_149  hf) (fun _ h => h) (fun _ h => h)
        ·
          exact frs_t hR (fr_make_194  hf) (fun _ h => h) (fun _ h => h)
    ·
      exact frs_t hR (fr_make_194  hf) (fun _ h => h) (fun _ h => h)
  ·
    exact frs_t hR (fr_make_194  hf) (fun _ h => h) (fun _ h => h)
theorem fr_make_68 {o : Int32 × MS} {x2 : Int32} {x3 : Int32} {x4 : Int32} {x5 : Int32} {x6 : Int32} {t0 : Int32} {I : Nat → Int32} {A : Nat → Nat → Int32}  (hf : f_make_68 x2 x3 x4 x5 x6 t0 I A = some o) : FrS [25, 26, 27, 28, 29] [24] I A o.2.1 o.2.2 := by
  have hR : FrS [25, 26, 27, 28, 29] [24] I A I A := frs_0
  unfold f_make_68 at hf
  obtain ⟨I1, ev, hf⟩ := m_bndE hf
  replace hR := frs_I hR (by decide) ev
  clear ev
  rcases m_ifE hf with ⟨-, hf⟩ | ⟨-, hf⟩
  ·
    exact frs_t hR (fr_make_114  hf) (fun _ h => h) (fun _ h => h)
  ·
    obtain ⟨-, hf⟩ := m_chkE hf
    obtain ⟨v2, ev, hf⟩ := m_bndE hf
    clear ev
    rcases m_ifE hf with ⟨-, hf⟩ | ⟨-, hf⟩
    ·
      obtain ⟨v3, ev, hf⟩ := m_bndE hf
      clear ev
      obtain ⟨v4, ev, hf⟩ := m_bndE hf
      clear ev
      rcases m_ifE hf with ⟨-, hf⟩ | ⟨-, hf⟩
      ·
        exact frs_t hR (fr_make_114  hf) (fun _ h => h) (fun _ h => h)
      ·
        obtain ⟨v5, ev, hf⟩ := m_bndE hf
        clear ev
        obtain ⟨v6, ev, hf⟩ := m_bndE hf
        clear ev
        obtain ⟨v7, ev, hf⟩ := m_bndE hf
        clear ev
        obtain ⟨v8, ev, hf⟩ := m_bndE hf
        clear ev
        obtain ⟨-, hf⟩ := m_chkE hf
        obtain ⟨A9, ev, hf⟩ := m_bndE hf
        replace hR := frs_A hR (by decide) ev
        clear ev
        exact frs_t hR (fr_make_114  hf) (fun _ h => h) (fun _ h => h)
    ·
      exact frs_t hR (fr_make_114  hf) (fun _ h => h) (fun _ h => h)
theorem fr_make_58 {o : Int32 × MS} {x2 : Int32} {x3 : Int32} {x4 : Int32} {x5 : Int32} {x6 : Int32} {I : Nat → Int32} {A : Nat → Nat → Int32}  (hf : f_make_58 x2 x3 x4 x5 x6 I A = some o) : FrS [25, 26, 27, 28, 29] [24] I A o.2.1 o.2.2 := by
  have hR : FrS [25, 26, 27, 28, 29] [24] I A I A := frs_0
  unfold f_make_58 at hf
  exact frs_t hR (fr_make_68  hf) (fun _ h => h) (fun _ h => h)
theorem fr_make_42 {o : Int32 × MS} {x1 : Int32} {x2 : Int32} {x3 : Int32} {x4 : Int32} {x5 : Int32} {t0 : Int32} {I : Nat → Int32} {A : Nat → Nat → Int32}  (hf : f_make_42 x1 x2 x3 x4 x5 t0 I A = some o) : FrS [25, 26, 27, 28, 29] [24] I A o.2.1 o.2.2 := by
  have hR : FrS [25, 26, 27, 28, 29] [24] I A I A := frs_0
  unfold f_make_42 at hf
  rcases m_ifE hf with ⟨-, hf⟩ | ⟨-, hf⟩
  ·
    obtain ⟨o1, ho, hf⟩ := m_clE hf
    replace hR := frs_t hR (fr_isTaking ho) (by decide) (by decide)
    clear ho
    rcases m_ifE hf with ⟨-, hf⟩ | ⟨-, hf⟩
    ·
      obtain ⟨v2, ev, hf⟩ := m_bndE hf
      clear ev
      exact frs_t hR (fr_make_68  hf) (fun _ h => h) (fun _ h => h)
    ·
      exact frs_t hR (fr_make_58  hf) (fun _ h => h) (fun _ h => h)
  ·
    exact frs_t hR (fr_make_58  hf) (fun _ h => h) (fun _ h => h)
theorem fr_make_0 {o : Int32 × MS} {x1 : Int32} {I : Nat → Int32} {A : Nat → Nat → Int32}  (hf : f_make_0 x1 I A = some o) : FrS [25, 26, 27, 28, 29] [24] I A o.2.1 o.2.2 := by
  have hR : FrS [25, 26, 27, 28, 29] [24] I A I A := frs_0
  unfold f_make_0 at hf
  obtain ⟨v1, ev, hf⟩ := m_bndE hf
  clear ev
  obtain ⟨v2, ev, hf⟩ := m_bndE hf
  clear ev
  obtain ⟨v3, ev, hf⟩ := m_bndE hf
  clear ev
  obtain ⟨v4, ev, hf⟩ := m_bndE hf
  clear ev
  obtain ⟨-, hf⟩ := m_chkE hf
  obtain ⟨v5, ev, hf⟩ := m_bndE hf
  clear ev
  obtain ⟨o6, ho, hf⟩ := m_clE hf
  replace hR := frs_t hR (fr_kind ho) (by decide) (by decide)
  clear ho
  rcases m_ifE hf with ⟨-, hf⟩ | ⟨-, hf⟩
  ·
    exact frs_t hR (fr_make_42  hf) (fun _ h => h) (fun _ h => h)
  ·
    exact frs_t hR (fr_make_42  hf) (fun _ h => h) (fun _ h => h)
theorem fr_make {o : Int32 × MS} {x1 : Int32} {I : Nat → Int32} {A : Nat → Nat → Int32}  (hf : f_make x1 I A = some o) : FrS [25, 26, 27, 28, 29] [24] I A o.2.1 o.2.2 := by
  have hR : FrS [25, 26, 27, 28, 29] [24] I A I A := frs_0
  unfold f_make at hf
  exact frs_t hR (fr_make_0  hf) (fun _ h => h) (fun _ h => h)
theorem safe_eq {mv : Int32} {I : Nat → Int32} {A : Nat → Nat → Int32} {o : Int32 × MS} (hf : f0_isSafe mv I A = some o) : (∀ k, o.2.1 k = I k) ∧ ∀ q ∈ mSz, ∀ i, i < q.2 → nA I A q.1 i = o.2.2 q.1 i := by
  have key : ∀ (o2 o4 : Int32 × MS) (v3 : Int32), f_make mv I (nA I A) = some o2 → f_isInCheck v3 o2.2.1 o2.2.2 = some o4 → (∀ k, nB o4.2.1 o4.2.2 k = I k) ∧ ∀ q ∈ mSz, ∀ i, i < q.2 → nA I A q.1 i = va_up o4.2.2 24 (o4.2.2 30) q.1 i := by
    intro o2 o4 v3 k2 k3
    have a2 := fr_make k2
    have a3 := fr_isInCheck k3
    have c30 : o4.2.2 30 = A 24 := ((a3.2 30 (by decide)).trans (a2.2 30 (by decide))).trans nA_30
    have c31 : o4.2.2 31 = nA I A 31 := (a3.2 31 (by decide)).trans (a2.2 31 (by decide))
    refine ⟨fun k => ?_, fun q hq i hi => ?_⟩
    · by_cases hk : k ∈ [25, 26, 27, 28, 29]
      · rcases List.mem_cons.mp hk with rfl | hk
        · show o4.2.2 31 0 = _
          rw [c31]; rfl
        rcases List.mem_cons.mp hk with rfl | hk
        · show o4.2.2 31 1 = _
          rw [c31]; rfl
        rcases List.mem_cons.mp hk with rfl | hk
        · show o4.2.2 31 2 = _
          rw [c31]; rfl
        rcases List.mem_cons.mp hk with rfl | hk
        · show o4.2.2 31 3 = _
          rw [c31]; rfl
        rcases List.mem_cons.mp hk with rfl | hk
        · show o4.2.2 31 4 = _
          rw [c31]; rfl
        · cases hk
      · rw [nB_o hk, a3.1 k List.not_mem_nil, a2.1 k hk]
    · by_cases h24 : q.1 = 24
      · rw [h24, va_up_self, c30, nA_o (by decide) (by decide)]
      · rw [va_up_ne _ _ h24, a3.2 q.1 List.not_mem_nil, a2.2 q.1 (by simpa using h24)]
  unfold f0_isSafe f_isSafe_0 at hf
  obtain ⟨o1, k1, hf⟩ := m_clE hf
  cases k1
  obtain ⟨o2, k2, hf⟩ := m_clE hf
  obtain ⟨v3, -, hf⟩ := m_bndE hf
  obtain ⟨o4, k3, hf⟩ := m_clE hf
  rcases m_ifE hf with ⟨-, hf⟩ | ⟨-, hf⟩
  · unfold f_isSafe_27 at hf
    obtain ⟨o5, k4, hf⟩ := m_clE hf
    obtain ⟨-, hf⟩ := m_chkE hf
    cases hf
    cases k4
    exact key o2 o4 _ k2 k3
  · unfold f_isSafe_27 at hf
    obtain ⟨o5, k4, hf⟩ := m_clE hf
    obtain ⟨-, hf⟩ := m_chkE hf
    cases hf
    cases k4
    exact key o2 o4 _ k2 k3
/-- isSafe: the state as it was, kept beside -/
def f_isSafe (x1 : Int32) (I : Nat → Int32) (A : Nat → Nat → Int32) : Option (Int32 × MS) := m_cl (f0_isSafe x1 I A) (fun v _ _ => some (v, (I, nA I A)))
theorem c_isSafe {l : Launch} {D : va_G} {cy ci : ClassId} {h : Nat → Nat} {x1 : Int32} {I : Nat → Int32} {A : Nat → Nat → Int32} {o : Int32 × MS} (hf : f_isSafe x1 I A = some o) : mMi l yX12_isSafe wsX12_isSafe ({ frames := 4, cells := 0, slots := 0, locals := 98 } : Room) [.ref (h 0), .int x1] D cy ci h I A o := by
  obtain ⟨o0, h0, hf⟩ := m_clE hf
  cases hf
  exact mMi_ren (c0_isSafe h0) rfl (fun k _ => ((safe_eq h0).1 k).symm) (safe_eq h0).2
