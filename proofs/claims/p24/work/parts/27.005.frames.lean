theorem fw_keep {o : Int32 × MS} {I : Nat → Int32} {A : Nat → Nat → Int32} (hf : f_keep I A = some o) : FrS [] [30, 31] I A o.2.1 o.2.2 := by
  cases hf
  exact ⟨fun _ _ => rfl, fun j hj => nA_o (by intro e; exact hj (by rw [e]; decide)) (by intro e; exact hj (by rw [e]; decide))⟩
theorem fw_bringBack {o : Int32 × MS} {I : Nat → Int32} {A : Nat → Nat → Int32} (hf : f_bringBack I A = some o) : FrS [25, 26, 27, 28, 29] [24] I A o.2.1 o.2.2 := by
  cases hf
  exact ⟨fun k hk => nB_o hk, fun j hj => va_up_ne _ _ (by intro e; exact hj (by rw [e]; decide))⟩
theorem fw_isSafe {o : Int32 × MS} {x1 : Int32} {I : Nat → Int32} {A : Nat → Nat → Int32} (hf : f_isSafe x1 I A = some o) : FrS [] [30, 31] I A o.2.1 o.2.2 := by
  obtain ⟨o1, -, hf⟩ := m_clE hf
  cases hf
  exact ⟨fun _ _ => rfl, fun j hj => nA_o (by intro e; exact hj (by rw [e]; decide)) (by intro e; exact hj (by rw [e]; decide))⟩

theorem fw_clearNode_0 {o : Int32 × MS} {x1 : Int32} {I : Nat → Int32} {A : Nat → Nat → Int32}  (hf : f_clearNode_0 x1 I A = some o) : FrS [] [10, 11, 12, 14] I A o.2.1 o.2.2 := by
  have hR : FrS [] [10, 11, 12, 14] I A I A := frs_0
  unfold f_clearNode_0 at hf
  obtain ⟨-, hf⟩ := m_chkE hf
  obtain ⟨A1, ev, hf⟩ := m_bndE hf
  replace hR := frs_A hR (by decide) ev
  clear ev
  obtain ⟨-, hf⟩ := m_chkE hf
  obtain ⟨A2, ev, hf⟩ := m_bndE hf
  replace hR := frs_A hR (by decide) ev
  clear ev
  obtain ⟨-, hf⟩ := m_chkE hf
  obtain ⟨A3, ev, hf⟩ := m_bndE hf
  replace hR := frs_A hR (by decide) ev
  clear ev
  obtain ⟨-, hf⟩ := m_chkE hf
  obtain ⟨A4, ev, hf⟩ := m_bndE hf
  replace hR := frs_A hR (by decide) ev
  clear ev
  cases hf
  exact hR
theorem fw_clearNode {o : Int32 × MS} {x1 : Int32} {I : Nat → Int32} {A : Nat → Nat → Int32} (hf : f_clearNode x1 I A = some o) : FrS [] [10, 11, 12, 14] I A o.2.1 o.2.2 := fw_clearNode_0  hf
theorem fw_clearGame_0 {o : Int32 × MS} {x1 : Int32} {I : Nat → Int32} {A : Nat → Nat → Int32}  (hf : f_clearGame_0 x1 I A = some o) : FrS [] [7, 8, 9, 10, 11, 12, 14, 18, 23] I A o.2.1 o.2.2 := by
  have hR : FrS [] [7, 8, 9, 10, 11, 12, 14, 18, 23] I A I A := frs_0
  unfold f_clearGame_0 at hf
  obtain ⟨-, hf⟩ := m_chkE hf
  obtain ⟨A1, ev, hf⟩ := m_bndE hf
  replace hR := frs_A hR (by decide) ev
  clear ev
  obtain ⟨-, hf⟩ := m_chkE hf
  obtain ⟨A2, ev, hf⟩ := m_bndE hf
  replace hR := frs_A hR (by decide) ev
  clear ev
  obtain ⟨-, hf⟩ := m_chkE hf
  obtain ⟨A3, ev, hf⟩ := m_bndE hf
  replace hR := frs_A hR (by decide) ev
  clear ev
  obtain ⟨v4, ev, hf⟩ := m_bndE hf
  clear ev
  obtain ⟨or5, ho, hf⟩ := m_clE hf
  replace hR := frs_t hR (fw_clearNode ho) (by decide) (by decide)
  clear ho
  obtain ⟨v6, ev, hf⟩ := m_bndE hf
  clear ev
  obtain ⟨-, hf⟩ := m_chkE hf
  obtain ⟨A7, ev, hf⟩ := m_bndE hf
  replace hR := frs_A hR (by decide) ev
  clear ev
  obtain ⟨v8, ev, hf⟩ := m_bndE hf
  clear ev
  obtain ⟨-, hf⟩ := m_chkE hf
  obtain ⟨A9, ev, hf⟩ := m_bndE hf
  replace hR := frs_A hR (by decide) ev
  clear ev
  cases hf
  exact hR
theorem fw_clearGame {o : Int32 × MS} {x1 : Int32} {I : Nat → Int32} {A : Nat → Nat → Int32} (hf : f_clearGame x1 I A = some o) : FrS [] [7, 8, 9, 10, 11, 12, 14, 18, 23] I A o.2.1 o.2.2 := fw_clearGame_0  hf
theorem fw_start_2s {o : Int32 × MS} {self2 : Int32 → Int32 → (Nat → Int32) → (Nat → Nat → Int32) → Option (Int32 × MS)} {x1 : Int32} {x2 : Int32} {I : Nat → Int32} {A : Nat → Nat → Int32} (hself2 : ∀ (z0 : Int32) (z1 : Int32) (I : Nat → Int32) (A : Nat → Nat → Int32) (o : Int32 × MS), self2 z0 z1 I A = some o → FrS [] [16, 17] I A o.2.1 o.2.2) (hf : f_start_2s self2 x1 x2 I A = some o) : FrS [] [16, 17] I A o.2.1 o.2.2 := by
  have hR : FrS [] [16, 17] I A I A := frs_0
  unfold f_start_2s at hf
  rcases m_ifE hf with ⟨-, hf⟩ | ⟨-, hf⟩
  ·
    obtain ⟨v1, ev, hf⟩ := m_bndE hf
    clear ev
    obtain ⟨-, hf⟩ := m_chkE hf
    obtain ⟨A2, ev, hf⟩ := m_bndE hf
    replace hR := frs_A hR (by decide) ev
    clear ev
    obtain ⟨v3, ev, hf⟩ := m_bndE hf
    clear ev
    obtain ⟨v4, ev, hf⟩ := m_bndE hf
    clear ev
    obtain ⟨-, hf⟩ := m_chkE hf
    obtain ⟨A5, ev, hf⟩ := m_bndE hf
    replace hR := frs_A hR (by decide) ev
    clear ev
    obtain ⟨v6, ev, hf⟩ := m_bndE hf
    clear ev
    obtain ⟨v7, ev, hf⟩ := m_bndE hf
    clear ev
    obtain ⟨-, hf⟩ := m_chkE hf
    obtain ⟨A8, ev, hf⟩ := m_bndE hf
    replace hR := frs_A hR (by decide) ev
    clear ev
    obtain ⟨v9, ev, hf⟩ := m_bndE hf
    clear ev
    obtain ⟨v10, ev, hf⟩ := m_bndE hf
    clear ev
    obtain ⟨-, hf⟩ := m_chkE hf
    obtain ⟨A11, ev, hf⟩ := m_bndE hf
    replace hR := frs_A hR (by decide) ev
    clear ev
    obtain ⟨v12, ev, hf⟩ := m_bndE hf
    clear ev
    obtain ⟨v13, ev, hf⟩ := m_bndE hf
    clear ev
    obtain ⟨-, hf⟩ := m_chkE hf
    obtain ⟨A14, ev, hf⟩ := m_bndE hf
    replace hR := frs_A hR (by decide) ev
    clear ev
    cases hf
    exact hR
  ·
    obtain ⟨v15, ev, hf⟩ := m_bndE hf
    clear ev
    obtain ⟨v16, ev, hf⟩ := m_bndE hf
    clear ev
    obtain ⟨-, hf⟩ := m_chkE hf
    obtain ⟨v17, ev, hf⟩ := m_bndE hf
    clear ev
    obtain ⟨-, hf⟩ := m_chkE hf
    obtain ⟨A18, ev, hf⟩ := m_bndE hf
    replace hR := frs_A hR (by decide) ev
    clear ev
    obtain ⟨v19, ev, hf⟩ := m_bndE hf
    clear ev
    exact frs_t hR (hself2 _ _ _ _ _ hf) (fun _ h => h) (fun _ h => h)
theorem fw_start_2   (n : Nat) : ∀ (y0 : Int32) (y1 : Int32) (I : Nat → Int32) (A : Nat → Nat → Int32) (o : Int32 × MS), f_start_2  n y0 y1 I A = some o → FrS [] [16, 17] I A o.2.1 o.2.2 := by
  induction n with
  | zero => intro y0 y1 I A o hf; cases hf
  | succ n ih => intro y0 y1 I A o hf; exact fw_start_2s  ih hf
theorem fw_start_0 {o : Int32 × MS} {x1 : Int32} {I : Nat → Int32} {A : Nat → Nat → Int32}  (hf : f_start_0 x1 I A = some o) : FrS [] [16, 17] I A o.2.1 o.2.2 := by
  have hR : FrS [] [16, 17] I A I A := frs_0
  unfold f_start_0 at hf
  exact frs_t hR (fw_start_2  mFuel _ _ _ _ _ hf) (fun _ h => h) (fun _ h => h)
theorem fw_start {o : Int32 × MS} {x1 : Int32} {I : Nat → Int32} {A : Nat → Nat → Int32} (hf : f_start x1 I A = some o) : FrS [] [16, 17] I A o.2.1 o.2.2 := fw_start_0  hf
theorem fw_usual_83 {o : Int32 × MS} {self23 : Int32 → Int32 → (Nat → Int32) → (Nat → Nat → Int32) → Option (Int32 × MS)} {x1 : Int32} {x2 : Int32} {t0 : Int32} {I : Nat → Int32} {A : Nat → Nat → Int32} (hself23 : ∀ (z0 : Int32) (z1 : Int32) (I : Nat → Int32) (A : Nat → Nat → Int32) (o : Int32 × MS), self23 z0 z1 I A = some o → FrS [25, 26, 27, 28, 29] [16, 17, 24] I A o.2.1 o.2.2) (hf : f_usual_83 self23 x1 x2 t0 I A = some o) : FrS [25, 26, 27, 28, 29] [16, 17, 24] I A o.2.1 o.2.2 := by
  have hR : FrS [25, 26, 27, 28, 29] [16, 17, 24] I A I A := frs_0
  unfold f_usual_83 at hf
  obtain ⟨-, hf⟩ := m_chkE hf
  obtain ⟨A1, ev, hf⟩ := m_bndE hf
  replace hR := frs_A hR (by decide) ev
  clear ev
  obtain ⟨v2, ev, hf⟩ := m_bndE hf
  clear ev
  obtain ⟨-, hf⟩ := m_chkE hf
  obtain ⟨A3, ev, hf⟩ := m_bndE hf
  replace hR := frs_A hR (by decide) ev
  clear ev
  obtain ⟨v4, ev, hf⟩ := m_bndE hf
  clear ev
  obtain ⟨-, hf⟩ := m_chkE hf
  obtain ⟨A5, ev, hf⟩ := m_bndE hf
  replace hR := frs_A hR (by decide) ev
  clear ev
  obtain ⟨v6, ev, hf⟩ := m_bndE hf
  clear ev
  obtain ⟨v7, ev, hf⟩ := m_bndE hf
  clear ev
  obtain ⟨-, hf⟩ := m_chkE hf
  obtain ⟨A8, ev, hf⟩ := m_bndE hf
  replace hR := frs_A hR (by decide) ev
  clear ev
  obtain ⟨v9, ev, hf⟩ := m_bndE hf
  clear ev
  exact frs_t hR (hself23 _ _ _ _ _ hf) (fun _ h => h) (fun _ h => h)
theorem fw_usual_39 {o : Int32 × MS} {self23 : Int32 → Int32 → (Nat → Int32) → (Nat → Nat → Int32) → Option (Int32 × MS)} {x1 : Int32} {x2 : Int32} {I : Nat → Int32} {A : Nat → Nat → Int32} (hself23 : ∀ (z0 : Int32) (z1 : Int32) (I : Nat → Int32) (A : Nat → Nat → Int32) (o : Int32 × MS), self23 z0 z1 I A = some o → FrS [25, 26, 27, 28, 29] [16, 17, 24] I A o.2.1 o.2.2) (hf : f_usual_39 self23 x1 x2 I A = some o) : FrS [25, 26, 27, 28, 29] [16, 17, 24] I A o.2.1 o.2.2 := by
  have hR : FrS [25, 26, 27, 28, 29] [16, 17, 24] I A I A := frs_0
  unfold f_usual_39 at hf
  exact frs_t hR (fw_usual_83 hself23 hf) (fun _ h => h) (fun _ h => h)
theorem fw_usual_54 {o : Int32 × MS} {self23 : Int32 → Int32 → (Nat → Int32) → (Nat → Nat → Int32) → Option (Int32 × MS)} {x1 : Int32} {x2 : Int32} {I : Nat → Int32} {A : Nat → Nat → Int32} (hself23 : ∀ (z0 : Int32) (z1 : Int32) (I : Nat → Int32) (A : Nat → Nat → Int32) (o : Int32 × MS), self23 z0 z1 I A = some o → FrS [25, 26, 27, 28, 29] [16, 17, 24] I A o.2.1 o.2.2) (hf : f_usual_54 self23 x1 x2 I A = some o) : FrS [25, 26, 27, 28, 29] [16, 17, 24] I A o.2.1 o.2.2 := by
  have hR : FrS [25, 26, 27, 28, 29] [16, 17, 24] I A I A := frs_0
  unfold f_usual_54 at hf
  exact frs_t hR (fw_usual_83 hself23 hf) (fun _ h => h) (fun _ h => h)
theorem fw_usual_68 {o : Int32 × MS} {self23 : Int32 → Int32 → (Nat → Int32) → (Nat → Nat → Int32) → Option (Int32 × MS)} {x1 : Int32} {x2 : Int32} {I : Nat → Int32} {A : Nat → Nat → Int32} (hself23 : ∀ (z0 : Int32) (z1 : Int32) (I : Nat → Int32) (A : Nat → Nat → Int32) (o : Int32 × MS), self23 z0 z1 I A = some o → FrS [25, 26, 27, 28, 29] [16, 17, 24] I A o.2.1 o.2.2) (hf : f_usual_68 self23 x1 x2 I A = some o) : FrS [25, 26, 27, 28, 29] [16, 17, 24] I A o.2.1 o.2.2 := by
  have hR : FrS [25, 26, 27, 28, 29] [16, 17, 24] I A I A := frs_0
  unfold f_usual_68 at hf
  exact frs_t hR (fw_usual_83 hself23 hf) (fun _ h => h) (fun _ h => h)
theorem fw_usual_23s {o : Int32 × MS} {self23 : Int32 → Int32 → (Nat → Int32) → (Nat → Nat → Int32) → Option (Int32 × MS)} {x1 : Int32} {x2 : Int32} {I : Nat → Int32} {A : Nat → Nat → Int32} (hself23 : ∀ (z0 : Int32) (z1 : Int32) (I : Nat → Int32) (A : Nat → Nat → Int32) (o : Int32 × MS), self23 z0 z1 I A = some o → FrS [25, 26, 27, 28, 29] [16, 17, 24] I A o.2.1 o.2.2) (hf : f_usual_23s self23 x1 x2 I A = some o) : FrS [25, 26, 27, 28, 29] [16, 17, 24] I A o.2.1 o.2.2 := by
  have hR : FrS [25, 26, 27, 28, 29] [16, 17, 24] I A I A := frs_0
  unfold f_usual_23s at hf
  rcases m_ifE hf with ⟨-, hf⟩ | ⟨-, hf⟩
  ·
    obtain ⟨I1, ev, hf⟩ := m_bndE hf
    replace hR := frs_I hR (by decide) ev
    clear ev
    obtain ⟨I2, ev, hf⟩ := m_bndE hf
    replace hR := frs_I hR (by decide) ev
    clear ev
    obtain ⟨I3, ev, hf⟩ := m_bndE hf
    replace hR := frs_I hR (by decide) ev
    clear ev
    obtain ⟨I4, ev, hf⟩ := m_bndE hf
    replace hR := frs_I hR (by decide) ev
    clear ev
    obtain ⟨I5, ev, hf⟩ := m_bndE hf
    replace hR := frs_I hR (by decide) ev
    clear ev
    obtain ⟨or6, ho, hf⟩ := m_clE hf
    replace hR := frs_t hR (fw_start ho) (by decide) (by decide)
    clear ho
    cases hf
    exact hR
  ·
    rcases m_ifE hf with ⟨-, hf⟩ | ⟨-, hf⟩
    ·
      exact frs_t hR (fw_usual_39 hself23 hf) (fun _ h => h) (fun _ h => h)
    ·
      rcases m_ifE hf with ⟨-, hf⟩ | ⟨-, hf⟩
      ·
        exact frs_t hR (fw_usual_39 hself23 hf) (fun _ h => h) (fun _ h => h)
      ·
        rcases m_ifE hf with ⟨-, hf⟩ | ⟨-, hf⟩
        ·
          exact frs_t hR (fw_usual_54 hself23 hf) (fun _ h => h) (fun _ h => h)
        ·
          rcases m_ifE hf with ⟨-, hf⟩ | ⟨-, hf⟩
          ·
            exact frs_t hR (fw_usual_54 hself23 hf) (fun _ h => h) (fun _ h => h)
          ·
            rcases m_ifE hf with ⟨-, hf⟩ | ⟨-, hf⟩
            ·
              exact frs_t hR (fw_usual_68 hself23 hf) (fun _ h => h) (fun _ h => h)
            ·
              rcases m_ifE hf with ⟨-, hf⟩ | ⟨-, hf⟩
              ·
                exact frs_t hR (fw_usual_68 hself23 hf) (fun _ h => h) (fun _ h => h)
              ·
                rcases m_ifE hf with ⟨-, hf⟩ | ⟨-, hf⟩
                ·
                  exact frs_t hR (fw_usual_83 hself23 hf) (fun _ h => h) (fun _ h => h)
                ·
                  exact frs_t hR (fw_usual_83 hself23 hf) (fun _ h => h) (fun _ h => h)
theorem fw_usual_23   (n : Nat) : ∀ (y0 : Int32) (y1 : Int32) (I : Nat → Int32) (A : Nat → Nat → Int32) (o : Int32 × MS), f_usual_23  n y0 y1 I A = some o → FrS [25, 26, 27, 28, 29] [16, 17, 24] I A o.2.1 o.2.2 := by
  induction n with
  | zero => intro y0 y1 I A o hf; cases hf
  | succ n ih => intro y0 y1 I A o hf; exact fw_usual_23s  ih hf
theorem fw_usual_2s {o : Int32 × MS} {self2 : Int32 → Int32 → (Nat → Int32) → (Nat → Nat → Int32) → Option (Int32 × MS)} {x1 : Int32} {x2 : Int32} {I : Nat → Int32} {A : Nat → Nat → Int32} (hself2 : ∀ (z0 : Int32) (z1 : Int32) (I : Nat → Int32) (A : Nat → Nat → Int32) (o : Int32 × MS), self2 z0 z1 I A = some o → FrS [25, 26, 27, 28, 29] [16, 17, 24] I A o.2.1 o.2.2) (hf : f_usual_2s self2 x1 x2 I A = some o) : FrS [25, 26, 27, 28, 29] [16, 17, 24] I A o.2.1 o.2.2 := by
  have hR : FrS [25, 26, 27, 28, 29] [16, 17, 24] I A I A := frs_0
  unfold f_usual_2s at hf
  rcases m_ifE hf with ⟨-, hf⟩ | ⟨-, hf⟩
  ·
    exact frs_t hR (fw_usual_23  mFuel _ _ _ _ _ hf) (fun _ h => h) (fun _ h => h)
  ·
    obtain ⟨-, hf⟩ := m_chkE hf
    obtain ⟨A1, ev, hf⟩ := m_bndE hf
    replace hR := frs_A hR (by decide) ev
    clear ev
    obtain ⟨v2, ev, hf⟩ := m_bndE hf
    clear ev
    exact frs_t hR (hself2 _ _ _ _ _ hf) (fun _ h => h) (fun _ h => h)
theorem fw_usual_2   (n : Nat) : ∀ (y0 : Int32) (y1 : Int32) (I : Nat → Int32) (A : Nat → Nat → Int32) (o : Int32 × MS), f_usual_2  n y0 y1 I A = some o → FrS [25, 26, 27, 28, 29] [16, 17, 24] I A o.2.1 o.2.2 := by
  induction n with
  | zero => intro y0 y1 I A o hf; cases hf
  | succ n ih => intro y0 y1 I A o hf; exact fw_usual_2s  ih hf
theorem fw_usual_0 {o : Int32 × MS} {x1 : Int32} {I : Nat → Int32} {A : Nat → Nat → Int32}  (hf : f_usual_0 x1 I A = some o) : FrS [25, 26, 27, 28, 29] [16, 17, 24] I A o.2.1 o.2.2 := by
  have hR : FrS [25, 26, 27, 28, 29] [16, 17, 24] I A I A := frs_0
  unfold f_usual_0 at hf
  exact frs_t hR (fw_usual_2  mFuel _ _ _ _ _ hf) (fun _ h => h) (fun _ h => h)
theorem fw_usual {o : Int32 × MS} {x1 : Int32} {I : Nat → Int32} {A : Nat → Nat → Int32} (hf : f_usual x1 I A = some o) : FrS [25, 26, 27, 28, 29] [16, 17, 24] I A o.2.1 o.2.2 := fw_usual_0  hf
theorem fw_kind_0 {o : Int32 × MS} {x0 : Int32} {I : Nat → Int32} {A : Nat → Nat → Int32}  (hf : f_kind_0 x0 I A = some o) : FrS [] [] I A o.2.1 o.2.2 := by
  have hR : FrS [] [] I A I A := frs_0
  unfold f_kind_0 at hf
  obtain ⟨v1, ev, hf⟩ := m_bndE hf
  clear ev
  cases hf
  exact hR
theorem fw_kind {o : Int32 × MS} {x0 : Int32} {I : Nat → Int32} {A : Nat → Nat → Int32} (hf : f_kind x0 I A = some o) : FrS [] [] I A o.2.1 o.2.2 := fw_kind_0  hf
theorem fw_isTaking_51 {o : Int32 × MS} {t0 : Int32} {I : Nat → Int32} {A : Nat → Nat → Int32}  (hf : f_isTaking_51 t0 I A = some o) : FrS [] [] I A o.2.1 o.2.2 := by
  have hR : FrS [] [] I A I A := frs_0
  unfold f_isTaking_51 at hf
  obtain ⟨-, hf⟩ := m_chkE hf
  cases hf
  exact hR
theorem fw_isTaking_46 {o : Int32 × MS} {I : Nat → Int32} {A : Nat → Nat → Int32}  (hf : f_isTaking_46 I A = some o) : FrS [] [] I A o.2.1 o.2.2 := by
  have hR : FrS [] [] I A I A := frs_0
  unfold f_isTaking_46 at hf
  exact frs_t hR (fw_isTaking_51  hf) (fun _ h => h) (fun _ h => h)
theorem fw_isTaking_50 {o : Int32 × MS} {I : Nat → Int32} {A : Nat → Nat → Int32}  (hf : f_isTaking_50 I A = some o) : FrS [] [] I A o.2.1 o.2.2 := by
  have hR : FrS [] [] I A I A := frs_0
  unfold f_isTaking_50 at hf
  exact frs_t hR (fw_isTaking_51  hf) (fun _ h => h) (fun _ h => h)
theorem fw_isTaking_0 {o : Int32 × MS} {x1 : Int32} {I : Nat → Int32} {A : Nat → Nat → Int32}  (hf : f_isTaking_0 x1 I A = some o) : FrS [] [] I A o.2.1 o.2.2 := by
  have hR : FrS [] [] I A I A := frs_0
  unfold f_isTaking_0 at hf
  obtain ⟨v1, ev, hf⟩ := m_bndE hf
  clear ev
  obtain ⟨v2, ev, hf⟩ := m_bndE hf
  clear ev
  obtain ⟨v3, ev, hf⟩ := m_bndE hf
  clear ev
  obtain ⟨-, hf⟩ := m_chkE hf
  obtain ⟨v4, ev, hf⟩ := m_bndE hf
  clear ev
  rcases m_ifE hf with ⟨-, hf⟩ | ⟨-, hf⟩
  ·
    obtain ⟨-, hf⟩ := m_chkE hf
    obtain ⟨v5, ev, hf⟩ := m_bndE hf
    clear ev
    obtain ⟨or6, ho, hf⟩ := m_clE hf
    replace hR := frs_t hR (fw_kind ho) (by decide) (by decide)
    clear ho
    rcases m_ifE hf with ⟨-, hf⟩ | ⟨-, hf⟩
    ·
      obtain ⟨v7, ev, hf⟩ := m_bndE hf
      clear ev
      obtain ⟨v8, ev, hf⟩ := m_bndE hf
      clear ev
      rcases m_ifE hf with ⟨-, hf⟩ | ⟨-, hf⟩
      ·
        exact frs_t hR (fw_isTaking_50  hf) (fun _ h => h) (fun _ h => h)
      ·
        exact frs_t hR (fw_isTaking_46  hf) (fun _ h => h) (fun _ h => h)
    ·
      exact frs_t hR (fw_isTaking_50  hf) (fun _ h => h) (fun _ h => h)
  ·
    exact frs_t hR (fw_isTaking_46  hf) (fun _ h => h) (fun _ h => h)
theorem fw_isTaking {o : Int32 × MS} {x1 : Int32} {I : Nat → Int32} {A : Nat → Nat → Int32} (hf : f_isTaking x1 I A = some o) : FrS [] [] I A o.2.1 o.2.2 := fw_isTaking_0  hf
theorem fw_lose_60 {o : Int32 × MS} {t0 : Int32} {I : Nat → Int32} {A : Nat → Nat → Int32}  (hf : f_lose_60 t0 I A = some o) : FrS [26] [] I A o.2.1 o.2.2 := by
  have hR : FrS [26] [] I A I A := frs_0
  unfold f_lose_60 at hf
  obtain ⟨v1, ev, hf⟩ := m_bndE hf
  clear ev
  obtain ⟨v2, ev, hf⟩ := m_bndE hf
  clear ev
  obtain ⟨I3, ev, hf⟩ := m_bndE hf
  replace hR := frs_I hR (by decide) ev
  clear ev
  cases hf
  exact hR
theorem fw_lose_0 {o : Int32 × MS} {x1 : Int32} {I : Nat → Int32} {A : Nat → Nat → Int32}  (hf : f_lose_0 x1 I A = some o) : FrS [26] [] I A o.2.1 o.2.2 := by
  have hR : FrS [26] [] I A I A := frs_0
  unfold f_lose_0 at hf
  rcases m_ifE hf with ⟨-, hf⟩ | ⟨-, hf⟩
  ·
    exact frs_t hR (fw_lose_60  hf) (fun _ h => h) (fun _ h => h)
  ·
    rcases m_ifE hf with ⟨-, hf⟩ | ⟨-, hf⟩
    ·
      exact frs_t hR (fw_lose_60  hf) (fun _ h => h) (fun _ h => h)
    ·
      rcases m_ifE hf with ⟨-, hf⟩ | ⟨-, hf⟩
      ·
        exact frs_t hR (fw_lose_60  hf) (fun _ h => h) (fun _ h => h)
      ·
        rcases m_ifE hf with ⟨-, hf⟩ | ⟨-, hf⟩
        ·
          exact frs_t hR (fw_lose_60  hf) (fun _ h => h) (fun _ h => h)
        ·
          rcases m_ifE hf with ⟨-, hf⟩ | ⟨-, hf⟩
          ·
            exact frs_t hR (fw_lose_60  hf) (fun _ h => h) (fun _ h => h)
          ·
            rcases m_ifE hf with ⟨-, hf⟩ | ⟨-, hf⟩
            ·
              exact frs_t hR (fw_lose_60  hf) (fun _ h => h) (fun _ h => h)
            ·
              exact frs_t hR (fw_lose_60  hf) (fun _ h => h) (fun _ h => h)
theorem fw_lose {o : Int32 × MS} {x1 : Int32} {I : Nat → Int32} {A : Nat → Nat → Int32} (hf : f_lose x1 I A = some o) : FrS [26] [] I A o.2.1 o.2.2 := fw_lose_0  hf
theorem fw_step_48 {o : Int32 × MS} {t0 : Int32} {I : Nat → Int32} {A : Nat → Nat → Int32}  (hf : f_step_48 t0 I A = some o) : FrS [] [] I A o.2.1 o.2.2 := by
  have hR : FrS [] [] I A I A := frs_0
  unfold f_step_48 at hf
  cases hf
  exact hR
theorem fw_step_47 {o : Int32 × MS} {I : Nat → Int32} {A : Nat → Nat → Int32}  (hf : f_step_47 I A = some o) : FrS [] [] I A o.2.1 o.2.2 := by
  have hR : FrS [] [] I A I A := frs_0
  unfold f_step_47 at hf
  exact frs_t hR (fw_step_48  hf) (fun _ h => h) (fun _ h => h)
theorem fw_step_0 {o : Int32 × MS} {x0 : Int32} {x1 : Int32} {x2 : Int32} {I : Nat → Int32} {A : Nat → Nat → Int32}  (hf : f_step_0 x0 x1 x2 I A = some o) : FrS [] [] I A o.2.1 o.2.2 := by
  have hR : FrS [] [] I A I A := frs_0
  unfold f_step_0 at hf
  obtain ⟨v1, ev, hf⟩ := m_bndE hf
  clear ev
  obtain ⟨v2, ev, hf⟩ := m_bndE hf
  clear ev
  obtain ⟨v3, ev, hf⟩ := m_bndE hf
  clear ev
  obtain ⟨v4, ev, hf⟩ := m_bndE hf
  clear ev
  rcases m_ifE hf with ⟨-, hf⟩ | ⟨-, hf⟩
  ·
    exact frs_t hR (fw_step_47  hf) (fun _ h => h) (fun _ h => h)
  ·
    rcases m_ifE hf with ⟨-, hf⟩ | ⟨-, hf⟩
    ·
      exact frs_t hR (fw_step_47  hf) (fun _ h => h) (fun _ h => h)
    ·
      rcases m_ifE hf with ⟨-, hf⟩ | ⟨-, hf⟩
      ·
        exact frs_t hR (fw_step_47  hf) (fun _ h => h) (fun _ h => h)
      ·
        rcases m_ifE hf with ⟨-, hf⟩ | ⟨-, hf⟩
        ·
          exact frs_t hR (fw_step_47  hf) (fun _ h => h) (fun _ h => h)
        ·
          obtain ⟨v5, ev, hf⟩ := m_bndE hf
          clear ev
          obtain ⟨v6, ev, hf⟩ := m_bndE hf
          clear ev
          exact frs_t hR (fw_step_48  hf) (fun _ h => h) (fun _ h => h)
theorem fw_step {o : Int32 × MS} {x0 : Int32} {x1 : Int32} {x2 : Int32} {I : Nat → Int32} {A : Nat → Nat → Int32} (hf : f_step x0 x1 x2 I A = some o) : FrS [] [] I A o.2.1 o.2.2 := fw_step_0  hf
theorem fw_stands_19 {o : Int32 × MS} {t0 : Int32} {I : Nat → Int32} {A : Nat → Nat → Int32}  (hf : f_stands_19 t0 I A = some o) : FrS [] [] I A o.2.1 o.2.2 := by
  have hR : FrS [] [] I A I A := frs_0
  unfold f_stands_19 at hf
  obtain ⟨-, hf⟩ := m_chkE hf
  cases hf
  exact hR
theorem fw_stands_18 {o : Int32 × MS} {I : Nat → Int32} {A : Nat → Nat → Int32}  (hf : f_stands_18 I A = some o) : FrS [] [] I A o.2.1 o.2.2 := by
  have hR : FrS [] [] I A I A := frs_0
  unfold f_stands_18 at hf
  exact frs_t hR (fw_stands_19  hf) (fun _ h => h) (fun _ h => h)
theorem fw_stands_0 {o : Int32 × MS} {x1 : Int32} {x2 : Int32} {I : Nat → Int32} {A : Nat → Nat → Int32}  (hf : f_stands_0 x1 x2 I A = some o) : FrS [] [] I A o.2.1 o.2.2 := by
  have hR : FrS [] [] I A I A := frs_0
  unfold f_stands_0 at hf
  rcases m_ifE hf with ⟨-, hf⟩ | ⟨-, hf⟩
  ·
    exact frs_t hR (fw_stands_18  hf) (fun _ h => h) (fun _ h => h)
  ·
    obtain ⟨-, hf⟩ := m_chkE hf
    obtain ⟨v1, ev, hf⟩ := m_bndE hf
    clear ev
    rcases m_ifE hf with ⟨-, hf⟩ | ⟨-, hf⟩
    ·
      exact frs_t hR (fw_stands_19  hf) (fun _ h => h) (fun _ h => h)
    ·
      exact frs_t hR (fw_stands_18  hf) (fun _ h => h) (fun _ h => h)
theorem fw_stands {o : Int32 × MS} {x1 : Int32} {x2 : Int32} {I : Nat → Int32} {A : Nat → Nat → Int32} (hf : f_stands x1 x2 I A = some o) : FrS [] [] I A o.2.1 o.2.2 := fw_stands_0  hf
theorem fw_make_319 {o : Int32 × MS} {I : Nat → Int32} {A : Nat → Nat → Int32}  (hf : f_make_319 I A = some o) : FrS [25, 26, 27, 28, 29] [24] I A o.2.1 o.2.2 := by
  have hR : FrS [25, 26, 27, 28, 29] [24] I A I A := frs_0
  unfold f_make_319 at hf
  obtain ⟨v1, ev, hf⟩ := m_bndE hf
  clear ev
  obtain ⟨I2, ev, hf⟩ := m_bndE hf
  replace hR := frs_I hR (by decide) ev
  clear ev
  obtain ⟨v3, ev, hf⟩ := m_bndE hf
  clear ev
  obtain ⟨I4, ev, hf⟩ := m_bndE hf
  replace hR := frs_I hR (by decide) ev
  clear ev
  cases hf
  exact hR
theorem fw_make_316 {o : Int32 × MS} {t0 : Int32} {I : Nat → Int32} {A : Nat → Nat → Int32}  (hf : f_make_316 t0 I A = some o) : FrS [25, 26, 27, 28, 29] [24] I A o.2.1 o.2.2 := by
  have hR : FrS [25, 26, 27, 28, 29] [24] I A I A := frs_0
  unfold f_make_316 at hf
  obtain ⟨I1, ev, hf⟩ := m_bndE hf
  replace hR := frs_I hR (by decide) ev
  clear ev
  exact frs_t hR (fw_make_319  hf) (fun _ h => h) (fun _ h => h)
theorem fw_make_307 {o : Int32 × MS} {x2 : Int32} {x3 : Int32} {I : Nat → Int32} {A : Nat → Nat → Int32}  (hf : f_make_307 x2 x3 I A = some o) : FrS [25, 26, 27, 28, 29] [24] I A o.2.1 o.2.2 := by
  have hR : FrS [25, 26, 27, 28, 29] [24] I A I A := frs_0
  unfold f_make_307 at hf
  obtain ⟨v1, ev, hf⟩ := m_bndE hf
  clear ev
  obtain ⟨v2, ev, hf⟩ := m_bndE hf
  clear ev
  exact frs_t hR (fw_make_316  hf) (fun _ h => h) (fun _ h => h)
theorem fw_make_263 {o : Int32 × MS} {x2 : Int32} {x3 : Int32} {I : Nat → Int32} {A : Nat → Nat → Int32}  (hf : f_make_263 x2 x3 I A = some o) : FrS [25, 26, 27, 28, 29] [24] I A o.2.1 o.2.2 := by
  have hR : FrS [25, 26, 27, 28, 29] [24] I A I A := frs_0
  unfold f_make_263 at hf
  obtain ⟨v1, ev, hf⟩ := m_bndE hf
  clear ev
  obtain ⟨v2, ev, hf⟩ := m_bndE hf
  clear ev
  obtain ⟨v3, ev, hf⟩ := m_bndE hf
  clear ev
  obtain ⟨or4, ho, hf⟩ := m_clE hf
  replace hR := frs_t hR (fw_step ho) (by decide) (by decide)
  clear ho
  obtain ⟨or5, ho, hf⟩ := m_clE hf
  replace hR := frs_t hR (fw_stands ho) (by decide) (by decide)
  clear ho
  rcases m_ifE hf with ⟨-, hf⟩ | ⟨-, hf⟩
  ·
    obtain ⟨or6, ho, hf⟩ := m_clE hf
    replace hR := frs_t hR (fw_step ho) (by decide) (by decide)
    clear ho
    obtain ⟨or7, ho, hf⟩ := m_clE hf
    replace hR := frs_t hR (fw_stands ho) (by decide) (by decide)
    clear ho
    rcases m_ifE hf with ⟨-, hf⟩ | ⟨-, hf⟩
    ·
      exact frs_t hR (fw_make_316  hf) (fun _ h => h) (fun _ h => h)
    ·
      exact frs_t hR (fw_make_307  hf) (fun _ h => h) (fun _ h => h)
  ·
    exact frs_t hR (fw_make_307  hf) (fun _ h => h) (fun _ h => h)
theorem fw_make_226 {o : Int32 × MS} {x2 : Int32} {x3 : Int32} {x6 : Int32} {t0 : Int32} {t1 : Int32} {I : Nat → Int32} {A : Nat → Nat → Int32}  (hf : f_make_226 x2 x3 x6 t0 t1 I A = some o) : FrS [25, 26, 27, 28, 29] [24] I A o.2.1 o.2.2 := by
  have hR : FrS [25, 26, 27, 28, 29] [24] I A I A := frs_0
  unfold f_make_226 at hf
  obtain ⟨-, hf⟩ := m_chkE hf
  obtain ⟨A1, ev, hf⟩ := m_bndE hf
  replace hR := frs_A hR (by decide) ev
  clear ev
  obtain ⟨or2, ho, hf⟩ := m_clE hf
  replace hR := frs_t hR (fw_lose ho) (by decide) (by decide)
  clear ho
  obtain ⟨or3, ho, hf⟩ := m_clE hf
  replace hR := frs_t hR (fw_lose ho) (by decide) (by decide)
  clear ho
  obtain ⟨I4, ev, hf⟩ := m_bndE hf
  replace hR := frs_I hR (by decide) ev
  clear ev
  rcases m_ifE hf with ⟨-, hf⟩ | ⟨-, hf⟩
  ·
    exact frs_t hR (fw_make_319  hf) (fun _ h => h) (fun _ h => h)
  ·
    obtain ⟨v5, ev, hf⟩ := m_bndE hf
    clear ev
    rcases m_ifE hf with ⟨-, hf⟩ | ⟨-, hf⟩
    ·
      exact frs_t hR (fw_make_263  hf) (fun _ h => h) (fun _ h => h)
    ·
      obtain ⟨v6, ev, hf⟩ := m_bndE hf
      clear ev
      rcases m_ifE hf with ⟨-, hf⟩ | ⟨-, hf⟩
      ·
        exact frs_t hR (fw_make_263  hf) (fun _ h => h) (fun _ h => h)
      ·
        exact frs_t hR (fw_make_319  hf) (fun _ h => h) (fun _ h => h)
theorem fw_make_194 {o : Int32 × MS} {x2 : Int32} {x3 : Int32} {x4 : Int32} {x5 : Int32} {x6 : Int32} {I : Nat → Int32} {A : Nat → Nat → Int32}  (hf : f_make_194 x2 x3 x4 x5 x6 I A = some o) : FrS [25, 26, 27, 28, 29] [24] I A o.2.1 o.2.2 := by
  have hR : FrS [25, 26, 27, 28, 29] [24] I A I A := frs_0
  unfold f_make_194 at hf
  obtain ⟨-, hf⟩ := m_chkE hf
  obtain ⟨A1, ev, hf⟩ := m_bndE hf
  replace hR := frs_A hR (by decide) ev
  clear ev
  rcases m_ifE hf with ⟨-, hf⟩ | ⟨-, hf⟩
  ·
    exact frs_t hR (fw_make_226  hf) (fun _ h => h) (fun _ h => h)
  ·
    obtain ⟨v2, ev, hf⟩ := m_bndE hf
    clear ev
    obtain ⟨v3, ev, hf⟩ := m_bndE hf
    clear ev
    exact frs_t hR (fw_make_226  hf) (fun _ h => h) (fun _ h => h)
theorem fw_make_167 {o : Int32 × MS} {x2 : Int32} {x3 : Int32} {x4 : Int32} {x5 : Int32} {x6 : Int32} {t0 : Int32} {I : Nat → Int32} {A : Nat → Nat → Int32}  (hf : f_make_167 x2 x3 x4 x5 x6 t0 I A = some o) : FrS [25, 26, 27, 28, 29] [24] I A o.2.1 o.2.2 := by
  have hR : FrS [25, 26, 27, 28, 29] [24] I A I A := frs_0
  unfold f_make_167 at hf
  obtain ⟨v1, ev, hf⟩ := m_bndE hf
  clear ev
  obtain ⟨v2, ev, hf⟩ := m_bndE hf
  clear ev
  obtain ⟨-, hf⟩ := m_chkE hf
  obtain ⟨v3, ev, hf⟩ := m_bndE hf
  clear ev
  obtain ⟨-, hf⟩ := m_chkE hf
  obtain ⟨A4, ev, hf⟩ := m_bndE hf
  replace hR := frs_A hR (by decide) ev
  clear ev
  obtain ⟨-, hf⟩ := m_chkE hf
  obtain ⟨A5, ev, hf⟩ := m_bndE hf
  replace hR := frs_A hR (by decide) ev
  clear ev
  exact frs_t hR (fw_make_194  hf) (fun _ h => h) (fun _ h => h)
theorem fw_make_149 {o : Int32 × MS} {x2 : Int32} {x3 : Int32} {x4 : Int32} {x5 : Int32} {x6 : Int32} {I : Nat → Int32} {A : Nat → Nat → Int32}  (hf : f_make_149 x2 x3 x4 x5 x6 I A = some o) : FrS [25, 26, 27, 28, 29] [24] I A o.2.1 o.2.2 := by
  have hR : FrS [25, 26, 27, 28, 29] [24] I A I A := frs_0
  unfold f_make_149 at hf
  obtain ⟨v1, ev, hf⟩ := m_bndE hf
  clear ev
  rcases m_ifE hf with ⟨-, hf⟩ | ⟨-, hf⟩
  ·
    obtain ⟨v3, ev, hf⟩ := m_bndE hf
    clear ev
    exact frs_t hR (fw_make_167  hf) (fun _ h => h) (fun _ h => h)
  ·
    obtain ⟨v2, ev, hf⟩ := m_bndE hf
    clear ev
    exact frs_t hR (fw_make_167  hf) (fun _ h => h) (fun _ h => h)
theorem fw_make_114 {o : Int32 × MS} {x2 : Int32} {x3 : Int32} {x4 : Int32} {x5 : Int32} {x6 : Int32} {I : Nat → Int32} {A : Nat → Nat → Int32}  (hf : f_make_114 x2 x3 x4 x5 x6 I A = some o) : FrS [25, 26, 27, 28, 29] [24] I A o.2.1 o.2.2 := by
  have hR : FrS [25, 26, 27, 28, 29] [24] I A I A := frs_0
  unfold f_make_114 at hf
  obtain ⟨or1, ho, hf⟩ := m_clE hf
  replace hR := frs_t hR (fw_kind ho) (by decide) (by decide)
  clear ho
  rcases m_ifE hf with ⟨-, hf⟩ | ⟨-, hf⟩
  ·
    obtain ⟨v2, ev, hf⟩ := m_bndE hf
    clear ev
    rcases m_ifE hf with ⟨-, hf⟩ | ⟨-, hf⟩
    ·
      obtain ⟨v3, ev, hf⟩ := m_bndE hf
      clear ev
      rcases m_ifE hf with ⟨-, hf⟩ | ⟨-, hf⟩
      ·
        exact frs_t hR (fw_make_149  hf) (fun _ h => h) (fun _ h => h)
      ·
        obtain ⟨v4, ev, hf⟩ := m_bndE hf
        clear ev
        rcases m_ifE hf with ⟨-, hf⟩ | ⟨-, hf⟩
        ·
          exact frs_t hR (fw_make_149  hf) (fun _ h => h) (fun _ h => h)
        ·
          exact frs_t hR (fw_make_194  hf) (fun _ h => h) (fun _ h => h)
    ·
      exact frs_t hR (fw_make_194  hf) (fun _ h => h) (fun _ h => h)
  ·
    exact frs_t hR (fw_make_194  hf) (fun _ h => h) (fun _ h => h)
theorem fw_make_68 {o : Int32 × MS} {x2 : Int32} {x3 : Int32} {x4 : Int32} {x5 : Int32} {x6 : Int32} {t0 : Int32} {I : Nat → Int32} {A : Nat → Nat → Int32}  (hf : f_make_68 x2 x3 x4 x5 x6 t0 I A = some o) : FrS [25, 26, 27, 28, 29] [24] I A o.2.1 o.2.2 := by
  have hR : FrS [25, 26, 27, 28, 29] [24] I A I A := frs_0
  unfold f_make_68 at hf
  obtain ⟨I1, ev, hf⟩ := m_bndE hf
  replace hR := frs_I hR (by decide) ev
  clear ev
  rcases m_ifE hf with ⟨-, hf⟩ | ⟨-, hf⟩
  ·
    exact frs_t hR (fw_make_114  hf) (fun _ h => h) (fun _ h => h)
  ·
    obtain ⟨-, hf⟩ := m_chkE hf
    obtain ⟨v2, ev, hf⟩ := m_bndE hf
    clear ev
    rcases m_ifE hf with ⟨-, hf⟩ | ⟨-, hf⟩
    ·
      obtain ⟨v3, ev, hf⟩ := m_bndE hf
      clear ev
      obtain ⟨v4, ev, hf⟩ := m_bndE hf
      clear ev
      rcases m_ifE hf with ⟨-, hf⟩ | ⟨-, hf⟩
      ·
        exact frs_t hR (fw_make_114  hf) (fun _ h => h) (fun _ h => h)
      ·
        obtain ⟨v5, ev, hf⟩ := m_bndE hf
        clear ev
        obtain ⟨v6, ev, hf⟩ := m_bndE hf
        clear ev
        obtain ⟨v7, ev, hf⟩ := m_bndE hf
        clear ev
        obtain ⟨v8, ev, hf⟩ := m_bndE hf
        clear ev
        obtain ⟨-, hf⟩ := m_chkE hf
        obtain ⟨A9, ev, hf⟩ := m_bndE hf
        replace hR := frs_A hR (by decide) ev
        clear ev
        exact frs_t hR (fw_make_114  hf) (fun _ h => h) (fun _ h => h)
    ·
      exact frs_t hR (fw_make_114  hf) (fun _ h => h) (fun _ h => h)
theorem fw_make_58 {o : Int32 × MS} {x2 : Int32} {x3 : Int32} {x4 : Int32} {x5 : Int32} {x6 : Int32} {I : Nat → Int32} {A : Nat → Nat → Int32}  (hf : f_make_58 x2 x3 x4 x5 x6 I A = some o) : FrS [25, 26, 27, 28, 29] [24] I A o.2.1 o.2.2 := by
  have hR : FrS [25, 26, 27, 28, 29] [24] I A I A := frs_0
  unfold f_make_58 at hf
  exact frs_t hR (fw_make_68  hf) (fun _ h => h) (fun _ h => h)
theorem fw_make_42 {o : Int32 × MS} {x1 : Int32} {x2 : Int32} {x3 : Int32} {x4 : Int32} {x5 : Int32} {t0 : Int32} {I : Nat → Int32} {A : Nat → Nat → Int32}  (hf : f_make_42 x1 x2 x3 x4 x5 t0 I A = some o) : FrS [25, 26, 27, 28, 29] [24] I A o.2.1 o.2.2 := by
  have hR : FrS [25, 26, 27, 28, 29] [24] I A I A := frs_0
  unfold f_make_42 at hf
  rcases m_ifE hf with ⟨-, hf⟩ | ⟨-, hf⟩
  ·
    obtain ⟨or1, ho, hf⟩ := m_clE hf
    replace hR := frs_t hR (fw_isTaking ho) (by decide) (by decide)
    clear ho
    rcases m_ifE hf with ⟨-, hf⟩ | ⟨-, hf⟩
    ·
      obtain ⟨v2, ev, hf⟩ := m_bndE hf
      clear ev
      exact frs_t hR (fw_make_68  hf) (fun _ h => h) (fun _ h => h)
    ·
      exact frs_t hR (fw_make_58  hf) (fun _ h => h) (fun _ h => h)
  ·
    exact frs_t hR (fw_make_58  hf) (fun _ h => h) (fun _ h => h)
theorem fw_make_0 {o : Int32 × MS} {x1 : Int32} {I : Nat → Int32} {A : Nat → Nat → Int32}  (hf : f_make_0 x1 I A = some o) : FrS [25, 26, 27, 28, 29] [24] I A o.2.1 o.2.2 := by
  have hR : FrS [25, 26, 27, 28, 29] [24] I A I A := frs_0
  unfold f_make_0 at hf
  obtain ⟨v1, ev, hf⟩ := m_bndE hf
  clear ev
  obtain ⟨v2, ev, hf⟩ := m_bndE hf
  clear ev
  obtain ⟨v3, ev, hf⟩ := m_bndE hf
  clear ev
  obtain ⟨v4, ev, hf⟩ := m_bndE hf
  clear ev
  obtain ⟨-, hf⟩ := m_chkE hf
  obtain ⟨v5, ev, hf⟩ := m_bndE hf
  clear ev
  obtain ⟨or6, ho, hf⟩ := m_clE hf
  replace hR := frs_t hR (fw_kind ho) (by decide) (by decide)
  clear ho
  rcases m_ifE hf with ⟨-, hf⟩ | ⟨-, hf⟩
  ·
    exact frs_t hR (fw_make_42  hf) (fun _ h => h) (fun _ h => h)
  ·
    exact frs_t hR (fw_make_42  hf) (fun _ h => h) (fun _ h => h)
theorem fw_make {o : Int32 × MS} {x1 : Int32} {I : Nat → Int32} {A : Nat → Nat → Int32} (hf : f_make x1 I A = some o) : FrS [25, 26, 27, 28, 29] [24] I A o.2.1 o.2.2 := fw_make_0  hf
theorem fw_sideOf_11 {o : Int32 × MS} {t0 : Int32} {I : Nat → Int32} {A : Nat → Nat → Int32}  (hf : f_sideOf_11 t0 I A = some o) : FrS [] [] I A o.2.1 o.2.2 := by
  have hR : FrS [] [] I A I A := frs_0
  unfold f_sideOf_11 at hf
  cases hf
  exact hR
theorem fw_sideOf_0 {o : Int32 × MS} {x0 : Int32} {I : Nat → Int32} {A : Nat → Nat → Int32}  (hf : f_sideOf_0 x0 I A = some o) : FrS [] [] I A o.2.1 o.2.2 := by
  have hR : FrS [] [] I A I A := frs_0
  unfold f_sideOf_0 at hf
  rcases m_ifE hf with ⟨-, hf⟩ | ⟨-, hf⟩
  ·
    exact frs_t hR (fw_sideOf_11  hf) (fun _ h => h) (fun _ h => h)
  ·
    obtain ⟨v1, ev, hf⟩ := m_bndE hf
    clear ev
    exact frs_t hR (fw_sideOf_11  hf) (fun _ h => h) (fun _ h => h)
theorem fw_sideOf {o : Int32 × MS} {x0 : Int32} {I : Nat → Int32} {A : Nat → Nat → Int32} (hf : f_sideOf x0 I A = some o) : FrS [] [] I A o.2.1 o.2.2 := fw_sideOf_0  hf
theorem fw_pawnGoes_162 {o : Int32 × MS} {t0 : Int32} {I : Nat → Int32} {A : Nat → Nat → Int32}  (hf : f_pawnGoes_162 t0 I A = some o) : FrS [] [] I A o.2.1 o.2.2 := by
  have hR : FrS [] [] I A I A := frs_0
  unfold f_pawnGoes_162 at hf
  obtain ⟨-, hf⟩ := m_chkE hf
  cases hf
  exact hR
theorem fw_pawnGoes_161 {o : Int32 × MS} {I : Nat → Int32} {A : Nat → Nat → Int32}  (hf : f_pawnGoes_161 I A = some o) : FrS [] [] I A o.2.1 o.2.2 := by
  have hR : FrS [] [] I A I A := frs_0
  unfold f_pawnGoes_161 at hf
  exact frs_t hR (fw_pawnGoes_162  hf) (fun _ h => h) (fun _ h => h)
theorem fw_pawnGoes_157 {o : Int32 × MS} {I : Nat → Int32} {A : Nat → Nat → Int32}  (hf : f_pawnGoes_157 I A = some o) : FrS [] [] I A o.2.1 o.2.2 := by
  have hR : FrS [] [] I A I A := frs_0
  unfold f_pawnGoes_157 at hf
  exact frs_t hR (fw_pawnGoes_162  hf) (fun _ h => h) (fun _ h => h)
theorem fw_pawnGoes_131 {o : Int32 × MS} {x2 : Int32} {I : Nat → Int32} {A : Nat → Nat → Int32}  (hf : f_pawnGoes_131 x2 I A = some o) : FrS [] [] I A o.2.1 o.2.2 := by
  have hR : FrS [] [] I A I A := frs_0
  unfold f_pawnGoes_131 at hf
  obtain ⟨-, hf⟩ := m_chkE hf
  obtain ⟨v1, ev, hf⟩ := m_bndE hf
  clear ev
  obtain ⟨or2, ho, hf⟩ := m_clE hf
  replace hR := frs_t hR (fw_sideOf ho) (by decide) (by decide)
  clear ho
  obtain ⟨v3, ev, hf⟩ := m_bndE hf
  clear ev
  rcases m_ifE hf with ⟨-, hf⟩ | ⟨-, hf⟩
  ·
    exact frs_t hR (fw_pawnGoes_157  hf) (fun _ h => h) (fun _ h => h)
  ·
    rcases m_ifE hf with ⟨-, hf⟩ | ⟨-, hf⟩
    ·
      exact frs_t hR (fw_pawnGoes_157  hf) (fun _ h => h) (fun _ h => h)
    ·
      exact frs_t hR (fw_pawnGoes_161  hf) (fun _ h => h) (fun _ h => h)
theorem fw_pawnGoes_91 {o : Int32 × MS} {t0 : Int32} {I : Nat → Int32} {A : Nat → Nat → Int32}  (hf : f_pawnGoes_91 t0 I A = some o) : FrS [] [] I A o.2.1 o.2.2 := by
  have hR : FrS [] [] I A I A := frs_0
  unfold f_pawnGoes_91 at hf
  obtain ⟨-, hf⟩ := m_chkE hf
  cases hf
  exact hR
theorem fw_pawnGoes_90 {o : Int32 × MS} {I : Nat → Int32} {A : Nat → Nat → Int32}  (hf : f_pawnGoes_90 I A = some o) : FrS [] [] I A o.2.1 o.2.2 := by
  have hR : FrS [] [] I A I A := frs_0
  unfold f_pawnGoes_90 at hf
  exact frs_t hR (fw_pawnGoes_91  hf) (fun _ h => h) (fun _ h => h)
theorem fw_pawnGoes_63 {o : Int32 × MS} {x1 : Int32} {x2 : Int32} {x3 : Int32} {t0 : Int32} {t1 : Int32} {I : Nat → Int32} {A : Nat → Nat → Int32}  (hf : f_pawnGoes_63 x1 x2 x3 t0 t1 I A = some o) : FrS [] [] I A o.2.1 o.2.2 := by
  have hR : FrS [] [] I A I A := frs_0
  unfold f_pawnGoes_63 at hf
  rcases m_ifE hf with ⟨-, hf⟩ | ⟨-, hf⟩
  ·
    obtain ⟨v1, ev, hf⟩ := m_bndE hf
    clear ev
    obtain ⟨-, hf⟩ := m_chkE hf
    obtain ⟨v2, ev, hf⟩ := m_bndE hf
    clear ev
    rcases m_ifE hf with ⟨-, hf⟩ | ⟨-, hf⟩
    ·
      obtain ⟨-, hf⟩ := m_chkE hf
      obtain ⟨v3, ev, hf⟩ := m_bndE hf
      clear ev
      rcases m_ifE hf with ⟨-, hf⟩ | ⟨-, hf⟩
      ·
        exact frs_t hR (fw_pawnGoes_91  hf) (fun _ h => h) (fun _ h => h)
      ·
        exact frs_t hR (fw_pawnGoes_90  hf) (fun _ h => h) (fun _ h => h)
    ·
      exact frs_t hR (fw_pawnGoes_90  hf) (fun _ h => h) (fun _ h => h)
  ·
    exact frs_t hR (fw_pawnGoes_90  hf) (fun _ h => h) (fun _ h => h)
theorem fw_pawnGoes_36 {o : Int32 × MS} {t0 : Int32} {I : Nat → Int32} {A : Nat → Nat → Int32}  (hf : f_pawnGoes_36 t0 I A = some o) : FrS [] [] I A o.2.1 o.2.2 := by
  have hR : FrS [] [] I A I A := frs_0
  unfold f_pawnGoes_36 at hf
  obtain ⟨-, hf⟩ := m_chkE hf
  cases hf
  exact hR
theorem fw_pawnGoes_14 {o : Int32 × MS} {x1 : Int32} {x2 : Int32} {t0 : Int32} {I : Nat → Int32} {A : Nat → Nat → Int32}  (hf : f_pawnGoes_14 x1 x2 t0 I A = some o) : FrS [] [] I A o.2.1 o.2.2 := by
  have hR : FrS [] [] I A I A := frs_0
  unfold f_pawnGoes_14 at hf
  obtain ⟨v1, ev, hf⟩ := m_bndE hf
  clear ev
  rcases m_ifE hf with ⟨-, hf⟩ | ⟨-, hf⟩
  ·
    obtain ⟨-, hf⟩ := m_chkE hf
    obtain ⟨v12, ev, hf⟩ := m_bndE hf
    clear ev
    rcases m_ifE hf with ⟨-, hf⟩ | ⟨-, hf⟩
    ·
      exact frs_t hR (fw_pawnGoes_36  hf) (fun _ h => h) (fun _ h => h)
    ·
      exact frs_t hR (fw_pawnGoes_36  hf) (fun _ h => h) (fun _ h => h)
  ·
    obtain ⟨v2, ev, hf⟩ := m_bndE hf
    clear ev
    obtain ⟨v3, ev, hf⟩ := m_bndE hf
    clear ev
    rcases m_ifE hf with ⟨-, hf⟩ | ⟨-, hf⟩
    ·
      obtain ⟨v11, ev, hf⟩ := m_bndE hf
      clear ev
      rcases m_ifE hf with ⟨-, hf⟩ | ⟨-, hf⟩
      ·
        exact frs_t hR (fw_pawnGoes_63  hf) (fun _ h => h) (fun _ h => h)
      ·
        exact frs_t hR (fw_pawnGoes_63  hf) (fun _ h => h) (fun _ h => h)
    ·
      obtain ⟨v4, ev, hf⟩ := m_bndE hf
      clear ev
      obtain ⟨v5, ev, hf⟩ := m_bndE hf
      clear ev
      obtain ⟨v6, ev, hf⟩ := m_bndE hf
      clear ev
      obtain ⟨v7, ev, hf⟩ := m_bndE hf
      clear ev
      obtain ⟨v8, ev, hf⟩ := m_bndE hf
      clear ev
      obtain ⟨v9, ev, hf⟩ := m_bndE hf
      clear ev
      obtain ⟨v10, ev, hf⟩ := m_bndE hf
      clear ev
      rcases m_ifE hf with ⟨-, hf⟩ | ⟨-, hf⟩
      ·
        rcases m_ifE hf with ⟨-, hf⟩ | ⟨-, hf⟩
        ·
          exact frs_t hR (fw_pawnGoes_131  hf) (fun _ h => h) (fun _ h => h)
        ·
          rcases m_ifE hf with ⟨-, hf⟩ | ⟨-, hf⟩
          ·
            exact frs_t hR (fw_pawnGoes_131  hf) (fun _ h => h) (fun _ h => h)
          ·
            exact frs_t hR (fw_pawnGoes_161  hf) (fun _ h => h) (fun _ h => h)
      ·
        exact frs_t hR (fw_pawnGoes_161  hf) (fun _ h => h) (fun _ h => h)
theorem fw_pawnGoes_0 {o : Int32 × MS} {x1 : Int32} {x2 : Int32} {I : Nat → Int32} {A : Nat → Nat → Int32}  (hf : f_pawnGoes_0 x1 x2 I A = some o) : FrS [] [] I A o.2.1 o.2.2 := by
  have hR : FrS [] [] I A I A := frs_0
  unfold f_pawnGoes_0 at hf
  rcases m_ifE hf with ⟨-, hf⟩ | ⟨-, hf⟩
  ·
    exact frs_t hR (fw_pawnGoes_14  hf) (fun _ h => h) (fun _ h => h)
  ·
    exact frs_t hR (fw_pawnGoes_14  hf) (fun _ h => h) (fun _ h => h)
theorem fw_pawnGoes {o : Int32 × MS} {x1 : Int32} {x2 : Int32} {I : Nat → Int32} {A : Nat → Nat → Int32} (hf : f_pawnGoes x1 x2 I A = some o) : FrS [] [] I A o.2.1 o.2.2 := fw_pawnGoes_0  hf
theorem fw_isClear_30 {o : Int32 × MS} {self5 : Int32 → Int32 → Int32 → (Nat → Int32) → (Nat → Nat → Int32) → Option (Int32 × MS)} {x2 : Int32} {x4 : Int32} {t0 : Int32} {I : Nat → Int32} {A : Nat → Nat → Int32} (hself5 : ∀ (z0 : Int32) (z1 : Int32) (z2 : Int32) (I : Nat → Int32) (A : Nat → Nat → Int32) (o : Int32 × MS), self5 z0 z1 z2 I A = some o → FrS [] [] I A o.2.1 o.2.2) (hf : f_isClear_30 self5 x2 x4 t0 I A = some o) : FrS [] [] I A o.2.1 o.2.2 := by
  have hR : FrS [] [] I A I A := frs_0
  unfold f_isClear_30 at hf
  obtain ⟨v1, ev, hf⟩ := m_bndE hf
  clear ev
  exact frs_t hR (hself5 _ _ _ _ _ _ hf) (fun _ h => h) (fun _ h => h)
theorem fw_isClear_29 {o : Int32 × MS} {self5 : Int32 → Int32 → Int32 → (Nat → Int32) → (Nat → Nat → Int32) → Option (Int32 × MS)} {x2 : Int32} {x4 : Int32} {I : Nat → Int32} {A : Nat → Nat → Int32} (hself5 : ∀ (z0 : Int32) (z1 : Int32) (z2 : Int32) (I : Nat → Int32) (A : Nat → Nat → Int32) (o : Int32 × MS), self5 z0 z1 z2 I A = some o → FrS [] [] I A o.2.1 o.2.2) (hf : f_isClear_29 self5 x2 x4 I A = some o) : FrS [] [] I A o.2.1 o.2.2 := by
  have hR : FrS [] [] I A I A := frs_0
  unfold f_isClear_29 at hf
  exact frs_t hR (fw_isClear_30 hself5 hf) (fun _ h => h) (fun _ h => h)
theorem fw_isClear_5s {o : Int32 × MS} {self5 : Int32 → Int32 → Int32 → (Nat → Int32) → (Nat → Nat → Int32) → Option (Int32 × MS)} {x2 : Int32} {x3 : Int32} {x4 : Int32} {I : Nat → Int32} {A : Nat → Nat → Int32} (hself5 : ∀ (z0 : Int32) (z1 : Int32) (z2 : Int32) (I : Nat → Int32) (A : Nat → Nat → Int32) (o : Int32 × MS), self5 z0 z1 z2 I A = some o → FrS [] [] I A o.2.1 o.2.2) (hf : f_isClear_5s self5 x2 x3 x4 I A = some o) : FrS [] [] I A o.2.1 o.2.2 := by
  have hR : FrS [] [] I A I A := frs_0
  unfold f_isClear_5s at hf
  rcases m_ifE hf with ⟨-, hf⟩ | ⟨-, hf⟩
  ·
    obtain ⟨-, hf⟩ := m_chkE hf
    cases hf
    exact hR
  ·
    rcases m_ifE hf with ⟨-, hf⟩ | ⟨-, hf⟩
    ·
      exact frs_t hR (fw_isClear_29 hself5 hf) (fun _ h => h) (fun _ h => h)
    ·
      obtain ⟨-, hf⟩ := m_chkE hf
      obtain ⟨v1, ev, hf⟩ := m_bndE hf
      clear ev
      rcases m_ifE hf with ⟨-, hf⟩ | ⟨-, hf⟩
      ·
        exact frs_t hR (fw_isClear_30 hself5 hf) (fun _ h => h) (fun _ h => h)
      ·
        exact frs_t hR (fw_isClear_29 hself5 hf) (fun _ h => h) (fun _ h => h)
theorem fw_isClear_5   (n : Nat) : ∀ (y0 : Int32) (y1 : Int32) (y2 : Int32) (I : Nat → Int32) (A : Nat → Nat → Int32) (o : Int32 × MS), f_isClear_5  n y0 y1 y2 I A = some o → FrS [] [] I A o.2.1 o.2.2 := by
  induction n with
  | zero => intro y0 y1 y2 I A o hf; cases hf
  | succ n ih => intro y0 y1 y2 I A o hf; exact fw_isClear_5s  ih hf
theorem fw_isClear_0 {o : Int32 × MS} {x1 : Int32} {x2 : Int32} {I : Nat → Int32} {A : Nat → Nat → Int32}  (hf : f_isClear_0 x1 x2 I A = some o) : FrS [] [] I A o.2.1 o.2.2 := by
  have hR : FrS [] [] I A I A := frs_0
  unfold f_isClear_0 at hf
  exact frs_t hR (fw_isClear_5  mFuel _ _ _ _ _ _ hf) (fun _ h => h) (fun _ h => h)
theorem fw_isClear {o : Int32 × MS} {x1 : Int32} {x2 : Int32} {I : Nat → Int32} {A : Nat → Nat → Int32} (hf : f_isClear x1 x2 I A = some o) : FrS [] [] I A o.2.1 o.2.2 := fw_isClear_0  hf
theorem fw_met_51 {o : Int32 × MS} {t0 : Int32} {I : Nat → Int32} {A : Nat → Nat → Int32}  (hf : f_met_51 t0 I A = some o) : FrS [] [] I A o.2.1 o.2.2 := by
  have hR : FrS [] [] I A I A := frs_0
  unfold f_met_51 at hf
  cases hf
  exact hR
theorem fw_met_35 {o : Int32 × MS} {x4 : Int32} {I : Nat → Int32} {A : Nat → Nat → Int32}  (hf : f_met_35 x4 I A = some o) : FrS [] [] I A o.2.1 o.2.2 := by
  have hR : FrS [] [] I A I A := frs_0
  unfold f_met_35 at hf
  rcases m_ifE hf with ⟨-, hf⟩ | ⟨-, hf⟩
  ·
    obtain ⟨-, hf⟩ := m_chkE hf
    obtain ⟨v1, ev, hf⟩ := m_bndE hf
    clear ev
    exact frs_t hR (fw_met_51  hf) (fun _ h => h) (fun _ h => h)
  ·
    exact frs_t hR (fw_met_51  hf) (fun _ h => h) (fun _ h => h)
theorem fw_met_8s {o : Int32 × MS} {self8 : Int32 → Int32 → Int32 → (Nat → Int32) → (Nat → Nat → Int32) → Option (Int32 × MS)} {x2 : Int32} {x3 : Int32} {x4 : Int32} {I : Nat → Int32} {A : Nat → Nat → Int32} (hself8 : ∀ (z0 : Int32) (z1 : Int32) (z2 : Int32) (I : Nat → Int32) (A : Nat → Nat → Int32) (o : Int32 × MS), self8 z0 z1 z2 I A = some o → FrS [] [] I A o.2.1 o.2.2) (hf : f_met_8s self8 x2 x3 x4 I A = some o) : FrS [] [] I A o.2.1 o.2.2 := by
  have hR : FrS [] [] I A I A := frs_0
  unfold f_met_8s at hf
  rcases m_ifE hf with ⟨-, hf⟩ | ⟨-, hf⟩
  ·
    exact frs_t hR (fw_met_35  hf) (fun _ h => h) (fun _ h => h)
  ·
    obtain ⟨-, hf⟩ := m_chkE hf
    obtain ⟨v1, ev, hf⟩ := m_bndE hf
    clear ev
    rcases m_ifE hf with ⟨-, hf⟩ | ⟨-, hf⟩
    ·
      obtain ⟨or2, ho, hf⟩ := m_clE hf
      replace hR := frs_t hR (fw_step ho) (by decide) (by decide)
      clear ho
      exact frs_t hR (hself8 _ _ _ _ _ _ hf) (fun _ h => h) (fun _ h => h)
    ·
      exact frs_t hR (fw_met_35  hf) (fun _ h => h) (fun _ h => h)
theorem fw_met_8   (n : Nat) : ∀ (y0 : Int32) (y1 : Int32) (y2 : Int32) (I : Nat → Int32) (A : Nat → Nat → Int32) (o : Int32 × MS), f_met_8  n y0 y1 y2 I A = some o → FrS [] [] I A o.2.1 o.2.2 := by
  induction n with
  | zero => intro y0 y1 y2 I A o hf; cases hf
  | succ n ih => intro y0 y1 y2 I A o hf; exact fw_met_8s  ih hf
theorem fw_met_0 {o : Int32 × MS} {x1 : Int32} {x2 : Int32} {x3 : Int32} {I : Nat → Int32} {A : Nat → Nat → Int32}  (hf : f_met_0 x1 x2 x3 I A = some o) : FrS [] [] I A o.2.1 o.2.2 := by
  have hR : FrS [] [] I A I A := frs_0
  unfold f_met_0 at hf
  obtain ⟨or1, ho, hf⟩ := m_clE hf
  replace hR := frs_t hR (fw_step ho) (by decide) (by decide)
  clear ho
  exact frs_t hR (fw_met_8  mFuel _ _ _ _ _ _ hf) (fun _ h => h) (fun _ h => h)
theorem fw_met {o : Int32 × MS} {x1 : Int32} {x2 : Int32} {x3 : Int32} {I : Nat → Int32} {A : Nat → Nat → Int32} (hf : f_met x1 x2 x3 I A = some o) : FrS [] [] I A o.2.1 o.2.2 := fw_met_0  hf
theorem fw_isAttacked_217 {o : Int32 × MS} {self61 : Int32 → Int32 → Int32 → Int32 → (Nat → Int32) → (Nat → Nat → Int32) → Option (Int32 × MS)} {self71 : Int32 → Int32 → Int32 → Int32 → Int32 → (Nat → Int32) → (Nat → Nat → Int32) → Option (Int32 × MS)} {x1 : Int32} {x3 : Int32} {x5 : Int32} {x6 : Int32} {x7 : Int32} {I : Nat → Int32} {A : Nat → Nat → Int32} (hself61 : ∀ (z0 : Int32) (z1 : Int32) (z2 : Int32) (z3 : Int32) (I : Nat → Int32) (A : Nat → Nat → Int32) (o : Int32 × MS), self61 z0 z1 z2 z3 I A = some o → FrS [] [] I A o.2.1 o.2.2) (hself71 : ∀ (z0 : Int32) (z1 : Int32) (z2 : Int32) (z3 : Int32) (z4 : Int32) (I : Nat → Int32) (A : Nat → Nat → Int32) (o : Int32 × MS), self71 z0 z1 z2 z3 z4 I A = some o → FrS [] [] I A o.2.1 o.2.2) (hf : f_isAttacked_217 self61 self71 x1 x3 x5 x6 x7 I A = some o) : FrS [] [] I A o.2.1 o.2.2 := by
  have hR : FrS [] [] I A I A := frs_0
  unfold f_isAttacked_217 at hf
  obtain ⟨v1, ev, hf⟩ := m_bndE hf
  clear ev
  exact frs_t hR (hself71 _ _ _ _ _ _ _ _ hf) (fun _ h => h) (fun _ h => h)
theorem fw_isAttacked_215 {o : Int32 × MS} {self61 : Int32 → Int32 → Int32 → Int32 → (Nat → Int32) → (Nat → Nat → Int32) → Option (Int32 × MS)} {self71 : Int32 → Int32 → Int32 → Int32 → Int32 → (Nat → Int32) → (Nat → Nat → Int32) → Option (Int32 × MS)} {x1 : Int32} {x3 : Int32} {x6 : Int32} {x7 : Int32} {t0 : Int32} {I : Nat → Int32} {A : Nat → Nat → Int32} (hself61 : ∀ (z0 : Int32) (z1 : Int32) (z2 : Int32) (z3 : Int32) (I : Nat → Int32) (A : Nat → Nat → Int32) (o : Int32 × MS), self61 z0 z1 z2 z3 I A = some o → FrS [] [] I A o.2.1 o.2.2) (hself71 : ∀ (z0 : Int32) (z1 : Int32) (z2 : Int32) (z3 : Int32) (z4 : Int32) (I : Nat → Int32) (A : Nat → Nat → Int32) (o : Int32 × MS), self71 z0 z1 z2 z3 z4 I A = some o → FrS [] [] I A o.2.1 o.2.2) (hf : f_isAttacked_215 self61 self71 x1 x3 x6 x7 t0 I A = some o) : FrS [] [] I A o.2.1 o.2.2 := by
  have hR : FrS [] [] I A I A := frs_0
  unfold f_isAttacked_215 at hf
  exact frs_t hR (fw_isAttacked_217 hself61 hself71 hf) (fun _ h => h) (fun _ h => h)
theorem fw_isAttacked_210 {o : Int32 × MS} {self61 : Int32 → Int32 → Int32 → Int32 → (Nat → Int32) → (Nat → Nat → Int32) → Option (Int32 × MS)} {self71 : Int32 → Int32 → Int32 → Int32 → Int32 → (Nat → Int32) → (Nat → Nat → Int32) → Option (Int32 × MS)} {x1 : Int32} {x3 : Int32} {x6 : Int32} {x7 : Int32} {I : Nat → Int32} {A : Nat → Nat → Int32} (hself61 : ∀ (z0 : Int32) (z1 : Int32) (z2 : Int32) (z3 : Int32) (I : Nat → Int32) (A : Nat → Nat → Int32) (o : Int32 × MS), self61 z0 z1 z2 z3 I A = some o → FrS [] [] I A o.2.1 o.2.2) (hself71 : ∀ (z0 : Int32) (z1 : Int32) (z2 : Int32) (z3 : Int32) (z4 : Int32) (I : Nat → Int32) (A : Nat → Nat → Int32) (o : Int32 × MS), self71 z0 z1 z2 z3 z4 I A = some o → FrS [] [] I A o.2.1 o.2.2) (hf : f_isAttacked_210 self61 self71 x1 x3 x6 x7 I A = some o) : FrS [] [] I A o.2.1 o.2.2 := by
  have hR : FrS [] [] I A I A := frs_0
  unfold f_isAttacked_210 at hf
  exact frs_t hR (fw_isAttacked_215 hself61 hself71 hf) (fun _ h => h) (fun _ h => h)
theorem fw_isAttacked_205 {o : Int32 × MS} {self61 : Int32 → Int32 → Int32 → Int32 → (Nat → Int32) → (Nat → Nat → Int32) → Option (Int32 × MS)} {self71 : Int32 → Int32 → Int32 → Int32 → Int32 → (Nat → Int32) → (Nat → Nat → Int32) → Option (Int32 × MS)} {x1 : Int32} {x3 : Int32} {x6 : Int32} {x7 : Int32} {t0 : Int32} {t1 : Int32} {I : Nat → Int32} {A : Nat → Nat → Int32} (hself61 : ∀ (z0 : Int32) (z1 : Int32) (z2 : Int32) (z3 : Int32) (I : Nat → Int32) (A : Nat → Nat → Int32) (o : Int32 × MS), self61 z0 z1 z2 z3 I A = some o → FrS [] [] I A o.2.1 o.2.2) (hself71 : ∀ (z0 : Int32) (z1 : Int32) (z2 : Int32) (z3 : Int32) (z4 : Int32) (I : Nat → Int32) (A : Nat → Nat → Int32) (o : Int32 × MS), self71 z0 z1 z2 z3 z4 I A = some o → FrS [] [] I A o.2.1 o.2.2) (hf : f_isAttacked_205 self61 self71 x1 x3 x6 x7 t0 t1 I A = some o) : FrS [] [] I A o.2.1 o.2.2 := by
  have hR : FrS [] [] I A I A := frs_0
  unfold f_isAttacked_205 at hf
  obtain ⟨v1, ev, hf⟩ := m_bndE hf
  clear ev
  rcases m_ifE hf with ⟨-, hf⟩ | ⟨-, hf⟩
  ·
    exact frs_t hR (fw_isAttacked_210 hself61 hself71 hf) (fun _ h => h) (fun _ h => h)
  ·
    exact frs_t hR (fw_isAttacked_215 hself61 hself71 hf) (fun _ h => h) (fun _ h => h)
theorem fw_isAttacked_168 {o : Int32 × MS} {self61 : Int32 → Int32 → Int32 → Int32 → (Nat → Int32) → (Nat → Nat → Int32) → Option (Int32 × MS)} {self71 : Int32 → Int32 → Int32 → Int32 → Int32 → (Nat → Int32) → (Nat → Nat → Int32) → Option (Int32 × MS)} {x1 : Int32} {x3 : Int32} {x5 : Int32} {x6 : Int32} {x7 : Int32} {x8 : Int32} {I : Nat → Int32} {A : Nat → Nat → Int32} (hself61 : ∀ (z0 : Int32) (z1 : Int32) (z2 : Int32) (z3 : Int32) (I : Nat → Int32) (A : Nat → Nat → Int32) (o : Int32 × MS), self61 z0 z1 z2 z3 I A = some o → FrS [] [] I A o.2.1 o.2.2) (hself71 : ∀ (z0 : Int32) (z1 : Int32) (z2 : Int32) (z3 : Int32) (z4 : Int32) (I : Nat → Int32) (A : Nat → Nat → Int32) (o : Int32 × MS), self71 z0 z1 z2 z3 z4 I A = some o → FrS [] [] I A o.2.1 o.2.2) (hf : f_isAttacked_168 self61 self71 x1 x3 x5 x6 x7 x8 I A = some o) : FrS [] [] I A o.2.1 o.2.2 := by
  have hR : FrS [] [] I A I A := frs_0
  unfold f_isAttacked_168 at hf
  obtain ⟨or1, ho, hf⟩ := m_clE hf
  replace hR := frs_t hR (fw_met ho) (by decide) (by decide)
  clear ho
  rcases m_ifE hf with ⟨-, hf⟩ | ⟨-, hf⟩
  ·
    obtain ⟨v2, ev, hf⟩ := m_bndE hf
    clear ev
    rcases m_ifE hf with ⟨-, hf⟩ | ⟨-, hf⟩
    ·
      exact frs_t hR (fw_isAttacked_210 hself61 hself71 hf) (fun _ h => h) (fun _ h => h)
    ·
      rcases m_ifE hf with ⟨-, hf⟩ | ⟨-, hf⟩
      ·
        exact frs_t hR (fw_isAttacked_205 hself61 hself71 hf) (fun _ h => h) (fun _ h => h)
      ·
        exact frs_t hR (fw_isAttacked_205 hself61 hself71 hf) (fun _ h => h) (fun _ h => h)
  ·
    exact frs_t hR (fw_isAttacked_210 hself61 hself71 hf) (fun _ h => h) (fun _ h => h)
theorem fw_isAttacked_154 {o : Int32 × MS} {self61 : Int32 → Int32 → Int32 → Int32 → (Nat → Int32) → (Nat → Nat → Int32) → Option (Int32 × MS)} {self71 : Int32 → Int32 → Int32 → Int32 → Int32 → (Nat → Int32) → (Nat → Nat → Int32) → Option (Int32 × MS)} {x1 : Int32} {x3 : Int32} {x6 : Int32} {x7 : Int32} {x8 : Int32} {t0 : Int32} {I : Nat → Int32} {A : Nat → Nat → Int32} (hself61 : ∀ (z0 : Int32) (z1 : Int32) (z2 : Int32) (z3 : Int32) (I : Nat → Int32) (A : Nat → Nat → Int32) (o : Int32 × MS), self61 z0 z1 z2 z3 I A = some o → FrS [] [] I A o.2.1 o.2.2) (hself71 : ∀ (z0 : Int32) (z1 : Int32) (z2 : Int32) (z3 : Int32) (z4 : Int32) (I : Nat → Int32) (A : Nat → Nat → Int32) (o : Int32 × MS), self71 z0 z1 z2 z3 z4 I A = some o → FrS [] [] I A o.2.1 o.2.2) (hf : f_isAttacked_154 self61 self71 x1 x3 x6 x7 x8 t0 I A = some o) : FrS [] [] I A o.2.1 o.2.2 := by
  have hR : FrS [] [] I A I A := frs_0
  unfold f_isAttacked_154 at hf
  rcases m_ifE hf with ⟨-, hf⟩ | ⟨-, hf⟩
  ·
    exact frs_t hR (fw_isAttacked_168 hself61 hself71 hf) (fun _ h => h) (fun _ h => h)
  ·
    rcases m_ifE hf with ⟨-, hf⟩ | ⟨-, hf⟩
    ·
      exact frs_t hR (fw_isAttacked_168 hself61 hself71 hf) (fun _ h => h) (fun _ h => h)
    ·
      exact frs_t hR (fw_isAttacked_217 hself61 hself71 hf) (fun _ h => h) (fun _ h => h)
theorem fw_isAttacked_149 {o : Int32 × MS} {self61 : Int32 → Int32 → Int32 → Int32 → (Nat → Int32) → (Nat → Nat → Int32) → Option (Int32 × MS)} {self71 : Int32 → Int32 → Int32 → Int32 → Int32 → (Nat → Int32) → (Nat → Nat → Int32) → Option (Int32 × MS)} {x1 : Int32} {x3 : Int32} {x6 : Int32} {x7 : Int32} {x8 : Int32} {I : Nat → Int32} {A : Nat → Nat → Int32} (hself61 : ∀ (z0 : Int32) (z1 : Int32) (z2 : Int32) (z3 : Int32) (I : Nat → Int32) (A : Nat → Nat → Int32) (o : Int32 × MS), self61 z0 z1 z2 z3 I A = some o → FrS [] [] I A o.2.1 o.2.2) (hself71 : ∀ (z0 : Int32) (z1 : Int32) (z2 : Int32) (z3 : Int32) (z4 : Int32) (I : Nat → Int32) (A : Nat → Nat → Int32) (o : Int32 × MS), self71 z0 z1 z2 z3 z4 I A = some o → FrS [] [] I A o.2.1 o.2.2) (hf : f_isAttacked_149 self61 self71 x1 x3 x6 x7 x8 I A = some o) : FrS [] [] I A o.2.1 o.2.2 := by
  have hR : FrS [] [] I A I A := frs_0
  unfold f_isAttacked_149 at hf
  exact frs_t hR (fw_isAttacked_154 hself61 hself71 hf) (fun _ h => h) (fun _ h => h)
theorem fw_isAttacked_153 {o : Int32 × MS} {self61 : Int32 → Int32 → Int32 → Int32 → (Nat → Int32) → (Nat → Nat → Int32) → Option (Int32 × MS)} {self71 : Int32 → Int32 → Int32 → Int32 → Int32 → (Nat → Int32) → (Nat → Nat → Int32) → Option (Int32 × MS)} {x1 : Int32} {x3 : Int32} {x6 : Int32} {x7 : Int32} {x8 : Int32} {I : Nat → Int32} {A : Nat → Nat → Int32} (hself61 : ∀ (z0 : Int32) (z1 : Int32) (z2 : Int32) (z3 : Int32) (I : Nat → Int32) (A : Nat → Nat → Int32) (o : Int32 × MS), self61 z0 z1 z2 z3 I A = some o → FrS [] [] I A o.2.1 o.2.2) (hself71 : ∀ (z0 : Int32) (z1 : Int32) (z2 : Int32) (z3 : Int32) (z4 : Int32) (I : Nat → Int32) (A : Nat → Nat → Int32) (o : Int32 × MS), self71 z0 z1 z2 z3 z4 I A = some o → FrS [] [] I A o.2.1 o.2.2) (hf : f_isAttacked_153 self61 self71 x1 x3 x6 x7 x8 I A = some o) : FrS [] [] I A o.2.1 o.2.2 := by
  have hR : FrS [] [] I A I A := frs_0
  unfold f_isAttacked_153 at hf
  exact frs_t hR (fw_isAttacked_154 hself61 hself71 hf) (fun _ h => h) (fun _ h => h)
theorem fw_isAttacked_119 {o : Int32 × MS} {self61 : Int32 → Int32 → Int32 → Int32 → (Nat → Int32) → (Nat → Nat → Int32) → Option (Int32 × MS)} {self71 : Int32 → Int32 → Int32 → Int32 → Int32 → (Nat → Int32) → (Nat → Nat → Int32) → Option (Int32 × MS)} {x1 : Int32} {x3 : Int32} {x6 : Int32} {x7 : Int32} {x8 : Int32} {I : Nat → Int32} {A : Nat → Nat → Int32} (hself61 : ∀ (z0 : Int32) (z1 : Int32) (z2 : Int32) (z3 : Int32) (I : Nat → Int32) (A : Nat → Nat → Int32) (o : Int32 × MS), self61 z0 z1 z2 z3 I A = some o → FrS [] [] I A o.2.1 o.2.2) (hself71 : ∀ (z0 : Int32) (z1 : Int32) (z2 : Int32) (z3 : Int32) (z4 : Int32) (I : Nat → Int32) (A : Nat → Nat → Int32) (o : Int32 × MS), self71 z0 z1 z2 z3 z4 I A = some o → FrS [] [] I A o.2.1 o.2.2) (hf : f_isAttacked_119 self61 self71 x1 x3 x6 x7 x8 I A = some o) : FrS [] [] I A o.2.1 o.2.2 := by
  have hR : FrS [] [] I A I A := frs_0
  unfold f_isAttacked_119 at hf
  rcases m_ifE hf with ⟨-, hf⟩ | ⟨-, hf⟩
  ·
    exact frs_t hR (fw_isAttacked_153 hself61 hself71 hf) (fun _ h => h) (fun _ h => h)
  ·
    rcases m_ifE hf with ⟨-, hf⟩ | ⟨-, hf⟩
    ·
      exact frs_t hR (fw_isAttacked_153 hself61 hself71 hf) (fun _ h => h) (fun _ h => h)
    ·
      obtain ⟨or1, ho, hf⟩ := m_clE hf
      replace hR := frs_t hR (fw_step ho) (by decide) (by decide)
      clear ho
      obtain ⟨v2, ev, hf⟩ := m_bndE hf
      clear ev
      obtain ⟨or3, ho, hf⟩ := m_clE hf
      replace hR := frs_t hR (fw_stands ho) (by decide) (by decide)
      clear ho
      rcases m_ifE hf with ⟨-, hf⟩ | ⟨-, hf⟩
      ·
        exact frs_t hR (fw_isAttacked_153 hself61 hself71 hf) (fun _ h => h) (fun _ h => h)
      ·
        exact frs_t hR (fw_isAttacked_149 hself61 hself71 hf) (fun _ h => h) (fun _ h => h)
theorem fw_isAttacked_71s {o : Int32 × MS} {self61 : Int32 → Int32 → Int32 → Int32 → (Nat → Int32) → (Nat → Nat → Int32) → Option (Int32 × MS)} {self71 : Int32 → Int32 → Int32 → Int32 → Int32 → (Nat → Int32) → (Nat → Nat → Int32) → Option (Int32 × MS)} {x1 : Int32} {x3 : Int32} {x5 : Int32} {x6 : Int32} {x7 : Int32} {I : Nat → Int32} {A : Nat → Nat → Int32} (hself61 : ∀ (z0 : Int32) (z1 : Int32) (z2 : Int32) (z3 : Int32) (I : Nat → Int32) (A : Nat → Nat → Int32) (o : Int32 × MS), self61 z0 z1 z2 z3 I A = some o → FrS [] [] I A o.2.1 o.2.2) (hself71 : ∀ (z0 : Int32) (z1 : Int32) (z2 : Int32) (z3 : Int32) (z4 : Int32) (I : Nat → Int32) (A : Nat → Nat → Int32) (o : Int32 × MS), self71 z0 z1 z2 z3 z4 I A = some o → FrS [] [] I A o.2.1 o.2.2) (hf : f_isAttacked_71s self61 self71 x1 x3 x5 x6 x7 I A = some o) : FrS [] [] I A o.2.1 o.2.2 := by
  have hR : FrS [] [] I A I A := frs_0
  unfold f_isAttacked_71s at hf
  rcases m_ifE hf with ⟨-, hf⟩ | ⟨-, hf⟩
  ·
    obtain ⟨v1, ev, hf⟩ := m_bndE hf
    clear ev
    exact frs_t hR (hself61 _ _ _ _ _ _ _ hf) (fun _ h => h) (fun _ h => h)
  ·
    obtain ⟨v2, ev, hf⟩ := m_bndE hf
    clear ev
    obtain ⟨v3, ev, hf⟩ := m_bndE hf
    clear ev
    obtain ⟨v4, ev, hf⟩ := m_bndE hf
    clear ev
    rcases m_ifE hf with ⟨-, hf⟩ | ⟨-, hf⟩
    ·
      rcases m_ifE hf with ⟨-, hf⟩ | ⟨-, hf⟩
      ·
        obtain ⟨or5, ho, hf⟩ := m_clE hf
        replace hR := frs_t hR (fw_step ho) (by decide) (by decide)
        clear ho
        obtain ⟨v6, ev, hf⟩ := m_bndE hf
        clear ev
        obtain ⟨or7, ho, hf⟩ := m_clE hf
        replace hR := frs_t hR (fw_stands ho) (by decide) (by decide)
        clear ho
        rcases m_ifE hf with ⟨-, hf⟩ | ⟨-, hf⟩
        ·
          exact frs_t hR (fw_isAttacked_119 hself61 hself71 hf) (fun _ h => h) (fun _ h => h)
        ·
          exact frs_t hR (fw_isAttacked_149 hself61 hself71 hf) (fun _ h => h) (fun _ h => h)
      ·
        exact frs_t hR (fw_isAttacked_119 hself61 hself71 hf) (fun _ h => h) (fun _ h => h)
    ·
      exact frs_t hR (fw_isAttacked_149 hself61 hself71 hf) (fun _ h => h) (fun _ h => h)
theorem fw_isAttacked_71 {self61 : Int32 → Int32 → Int32 → Int32 → (Nat → Int32) → (Nat → Nat → Int32) → Option (Int32 × MS)} (hself61 : ∀ (z0 : Int32) (z1 : Int32) (z2 : Int32) (z3 : Int32) (I : Nat → Int32) (A : Nat → Nat → Int32) (o : Int32 × MS), self61 z0 z1 z2 z3 I A = some o → FrS [] [] I A o.2.1 o.2.2) (n : Nat) : ∀ (y0 : Int32) (y1 : Int32) (y2 : Int32) (y3 : Int32) (y4 : Int32) (I : Nat → Int32) (A : Nat → Nat → Int32) (o : Int32 × MS), f_isAttacked_71 self61 n y0 y1 y2 y3 y4 I A = some o → FrS [] [] I A o.2.1 o.2.2 := by
  induction n with
  | zero => intro y0 y1 y2 y3 y4 I A o hf; cases hf
  | succ n ih => intro y0 y1 y2 y3 y4 I A o hf; exact fw_isAttacked_71s hself61 ih hf
theorem fw_isAttacked_61s {o : Int32 × MS} {self61 : Int32 → Int32 → Int32 → Int32 → (Nat → Int32) → (Nat → Nat → Int32) → Option (Int32 × MS)} {x1 : Int32} {x3 : Int32} {x5 : Int32} {x6 : Int32} {I : Nat → Int32} {A : Nat → Nat → Int32} (hself61 : ∀ (z0 : Int32) (z1 : Int32) (z2 : Int32) (z3 : Int32) (I : Nat → Int32) (A : Nat → Nat → Int32) (o : Int32 × MS), self61 z0 z1 z2 z3 I A = some o → FrS [] [] I A o.2.1 o.2.2) (hf : f_isAttacked_61s self61 x1 x3 x5 x6 I A = some o) : FrS [] [] I A o.2.1 o.2.2 := by
  have hR : FrS [] [] I A I A := frs_0
  unfold f_isAttacked_61s at hf
  rcases m_ifE hf with ⟨-, hf⟩ | ⟨-, hf⟩
  ·
    obtain ⟨-, hf⟩ := m_chkE hf
    cases hf
    exact hR
  ·
    exact frs_t hR (fw_isAttacked_71 hself61 mFuel _ _ _ _ _ _ _ _ hf) (fun _ h => h) (fun _ h => h)
theorem fw_isAttacked_61   (n : Nat) : ∀ (y0 : Int32) (y1 : Int32) (y2 : Int32) (y3 : Int32) (I : Nat → Int32) (A : Nat → Nat → Int32) (o : Int32 × MS), f_isAttacked_61  n y0 y1 y2 y3 I A = some o → FrS [] [] I A o.2.1 o.2.2 := by
  induction n with
  | zero => intro y0 y1 y2 y3 I A o hf; cases hf
  | succ n ih => intro y0 y1 y2 y3 I A o hf; exact fw_isAttacked_61s  ih hf
theorem fw_isAttacked_55 {o : Int32 × MS} {x1 : Int32} {x3 : Int32} {t0 : Int32} {I : Nat → Int32} {A : Nat → Nat → Int32}  (hf : f_isAttacked_55 x1 x3 t0 I A = some o) : FrS [] [] I A o.2.1 o.2.2 := by
  have hR : FrS [] [] I A I A := frs_0
  unfold f_isAttacked_55 at hf
  exact frs_t hR (fw_isAttacked_61  mFuel _ _ _ _ _ _ _ hf) (fun _ h => h) (fun _ h => h)
theorem fw_isAttacked_50 {o : Int32 × MS} {x1 : Int32} {x3 : Int32} {I : Nat → Int32} {A : Nat → Nat → Int32}  (hf : f_isAttacked_50 x1 x3 I A = some o) : FrS [] [] I A o.2.1 o.2.2 := by
  have hR : FrS [] [] I A I A := frs_0
  unfold f_isAttacked_50 at hf
  exact frs_t hR (fw_isAttacked_55  hf) (fun _ h => h) (fun _ h => h)
theorem fw_isAttacked_14 {o : Int32 × MS} {x1 : Int32} {x3 : Int32} {t0 : Int32} {I : Nat → Int32} {A : Nat → Nat → Int32}  (hf : f_isAttacked_14 x1 x3 t0 I A = some o) : FrS [] [] I A o.2.1 o.2.2 := by
  have hR : FrS [] [] I A I A := frs_0
  unfold f_isAttacked_14 at hf
  obtain ⟨or1, ho, hf⟩ := m_clE hf
  replace hR := frs_t hR (fw_step ho) (by decide) (by decide)
  clear ho
  obtain ⟨v2, ev, hf⟩ := m_bndE hf
  clear ev
  obtain ⟨or3, ho, hf⟩ := m_clE hf
  replace hR := frs_t hR (fw_stands ho) (by decide) (by decide)
  clear ho
  rcases m_ifE hf with ⟨-, hf⟩ | ⟨-, hf⟩
  ·
    obtain ⟨or4, ho, hf⟩ := m_clE hf
    replace hR := frs_t hR (fw_step ho) (by decide) (by decide)
    clear ho
    obtain ⟨v5, ev, hf⟩ := m_bndE hf
    clear ev
    obtain ⟨or6, ho, hf⟩ := m_clE hf
    replace hR := frs_t hR (fw_stands ho) (by decide) (by decide)
    clear ho
    rcases m_ifE hf with ⟨-, hf⟩ | ⟨-, hf⟩
    ·
      exact frs_t hR (fw_isAttacked_55  hf) (fun _ h => h) (fun _ h => h)
    ·
      exact frs_t hR (fw_isAttacked_50  hf) (fun _ h => h) (fun _ h => h)
  ·
    exact frs_t hR (fw_isAttacked_50  hf) (fun _ h => h) (fun _ h => h)
theorem fw_isAttacked_0 {o : Int32 × MS} {x1 : Int32} {x2 : Int32} {I : Nat → Int32} {A : Nat → Nat → Int32}  (hf : f_isAttacked_0 x1 x2 I A = some o) : FrS [] [] I A o.2.1 o.2.2 := by
  have hR : FrS [] [] I A I A := frs_0
  unfold f_isAttacked_0 at hf
  obtain ⟨v1, ev, hf⟩ := m_bndE hf
  clear ev
  rcases m_ifE hf with ⟨-, hf⟩ | ⟨-, hf⟩
  ·
    exact frs_t hR (fw_isAttacked_14  hf) (fun _ h => h) (fun _ h => h)
  ·
    exact frs_t hR (fw_isAttacked_14  hf) (fun _ h => h) (fun _ h => h)
theorem fw_isAttacked {o : Int32 × MS} {x1 : Int32} {x2 : Int32} {I : Nat → Int32} {A : Nat → Nat → Int32} (hf : f_isAttacked x1 x2 I A = some o) : FrS [] [] I A o.2.1 o.2.2 := fw_isAttacked_0  hf
theorem fw_mayCastle_131 {o : Int32 × MS} {t0 : Int32} {I : Nat → Int32} {A : Nat → Nat → Int32}  (hf : f_mayCastle_131 t0 I A = some o) : FrS [] [] I A o.2.1 o.2.2 := by
  have hR : FrS [] [] I A I A := frs_0
  unfold f_mayCastle_131 at hf
  obtain ⟨-, hf⟩ := m_chkE hf
  cases hf
  exact hR
theorem fw_mayCastle_130 {o : Int32 × MS} {I : Nat → Int32} {A : Nat → Nat → Int32}  (hf : f_mayCastle_130 I A = some o) : FrS [] [] I A o.2.1 o.2.2 := by
  have hR : FrS [] [] I A I A := frs_0
  unfold f_mayCastle_130 at hf
  exact frs_t hR (fw_mayCastle_131  hf) (fun _ h => h) (fun _ h => h)
theorem fw_mayCastle_82 {o : Int32 × MS} {x1 : Int32} {x2 : Int32} {x4 : Int32} {t0 : Int32} {I : Nat → Int32} {A : Nat → Nat → Int32}  (hf : f_mayCastle_82 x1 x2 x4 t0 I A = some o) : FrS [] [] I A o.2.1 o.2.2 := by
  have hR : FrS [] [] I A I A := frs_0
  unfold f_mayCastle_82 at hf
  rcases m_ifE hf with ⟨-, hf⟩ | ⟨-, hf⟩
  ·
    exact frs_t hR (fw_mayCastle_130  hf) (fun _ h => h) (fun _ h => h)
  ·
    rcases m_ifE hf with ⟨-, hf⟩ | ⟨-, hf⟩
    ·
      exact frs_t hR (fw_mayCastle_130  hf) (fun _ h => h) (fun _ h => h)
    ·
      obtain ⟨v1, ev, hf⟩ := m_bndE hf
      clear ev
      obtain ⟨or2, ho, hf⟩ := m_clE hf
      replace hR := frs_t hR (fw_isAttacked ho) (by decide) (by decide)
      clear ho
      rcases m_ifE hf with ⟨-, hf⟩ | ⟨-, hf⟩
      ·
        obtain ⟨v3, ev, hf⟩ := m_bndE hf
        clear ev
        obtain ⟨v4, ev, hf⟩ := m_bndE hf
        clear ev
        obtain ⟨v5, ev, hf⟩ := m_bndE hf
        clear ev
        obtain ⟨or6, ho, hf⟩ := m_clE hf
        replace hR := frs_t hR (fw_isAttacked ho) (by decide) (by decide)
        clear ho
        rcases m_ifE hf with ⟨-, hf⟩ | ⟨-, hf⟩
        ·
          exact frs_t hR (fw_mayCastle_131  hf) (fun _ h => h) (fun _ h => h)
        ·
          exact frs_t hR (fw_mayCastle_130  hf) (fun _ h => h) (fun _ h => h)
      ·
        exact frs_t hR (fw_mayCastle_130  hf) (fun _ h => h) (fun _ h => h)
theorem fw_mayCastle_53 {o : Int32 × MS} {x1 : Int32} {x2 : Int32} {x3 : Int32} {t0 : Int32} {I : Nat → Int32} {A : Nat → Nat → Int32}  (hf : f_mayCastle_53 x1 x2 x3 t0 I A = some o) : FrS [] [] I A o.2.1 o.2.2 := by
  have hR : FrS [] [] I A I A := frs_0
  unfold f_mayCastle_53 at hf
  rcases m_ifE hf with ⟨-, hf⟩ | ⟨-, hf⟩
  ·
    obtain ⟨v1, ev, hf⟩ := m_bndE hf
    clear ev
    obtain ⟨v2, ev, hf⟩ := m_bndE hf
    clear ev
    obtain ⟨or3, ho, hf⟩ := m_clE hf
    replace hR := frs_t hR (fw_isClear ho) (by decide) (by decide)
    clear ho
    exact frs_t hR (fw_mayCastle_82  hf) (fun _ h => h) (fun _ h => h)
  ·
    obtain ⟨v4, ev, hf⟩ := m_bndE hf
    clear ev
    obtain ⟨v5, ev, hf⟩ := m_bndE hf
    clear ev
    obtain ⟨or6, ho, hf⟩ := m_clE hf
    replace hR := frs_t hR (fw_isClear ho) (by decide) (by decide)
    clear ho
    exact frs_t hR (fw_mayCastle_82  hf) (fun _ h => h) (fun _ h => h)
theorem fw_mayCastle_40 {o : Int32 × MS} {x1 : Int32} {x2 : Int32} {x3 : Int32} {t0 : Int32} {t1 : Int32} {t2 : Int32} {I : Nat → Int32} {A : Nat → Nat → Int32}  (hf : f_mayCastle_40 x1 x2 x3 t0 t1 t2 I A = some o) : FrS [] [] I A o.2.1 o.2.2 := by
  have hR : FrS [] [] I A I A := frs_0
  unfold f_mayCastle_40 at hf
  obtain ⟨v1, ev, hf⟩ := m_bndE hf
  clear ev
  obtain ⟨v2, ev, hf⟩ := m_bndE hf
  clear ev
  obtain ⟨v3, ev, hf⟩ := m_bndE hf
  clear ev
  rcases m_ifE hf with ⟨-, hf⟩ | ⟨-, hf⟩
  ·
    exact frs_t hR (fw_mayCastle_53  hf) (fun _ h => h) (fun _ h => h)
  ·
    exact frs_t hR (fw_mayCastle_53  hf) (fun _ h => h) (fun _ h => h)
theorem fw_mayCastle_20 {o : Int32 × MS} {x1 : Int32} {x2 : Int32} {t0 : Int32} {I : Nat → Int32} {A : Nat → Nat → Int32}  (hf : f_mayCastle_20 x1 x2 t0 I A = some o) : FrS [] [] I A o.2.1 o.2.2 := by
  have hR : FrS [] [] I A I A := frs_0
  unfold f_mayCastle_20 at hf
  obtain ⟨v1, ev, hf⟩ := m_bndE hf
  clear ev
  rcases m_ifE hf with ⟨-, hf⟩ | ⟨-, hf⟩
  ·
    exact frs_t hR (fw_mayCastle_40  hf) (fun _ h => h) (fun _ h => h)
  ·
    exact frs_t hR (fw_mayCastle_40  hf) (fun _ h => h) (fun _ h => h)
theorem fw_mayCastle_0 {o : Int32 × MS} {x1 : Int32} {I : Nat → Int32} {A : Nat → Nat → Int32}  (hf : f_mayCastle_0 x1 I A = some o) : FrS [] [] I A o.2.1 o.2.2 := by
  have hR : FrS [] [] I A I A := frs_0
  unfold f_mayCastle_0 at hf
  obtain ⟨v1, ev, hf⟩ := m_bndE hf
  clear ev
  obtain ⟨v2, ev, hf⟩ := m_bndE hf
  clear ev
  rcases m_ifE hf with ⟨-, hf⟩ | ⟨-, hf⟩
  ·
    exact frs_t hR (fw_mayCastle_20  hf) (fun _ h => h) (fun _ h => h)
  ·
    exact frs_t hR (fw_mayCastle_20  hf) (fun _ h => h) (fun _ h => h)
theorem fw_mayCastle {o : Int32 × MS} {x1 : Int32} {I : Nat → Int32} {A : Nat → Nat → Int32} (hf : f_mayCastle x1 I A = some o) : FrS [] [] I A o.2.1 o.2.2 := fw_mayCastle_0  hf
theorem fw_goes_37 {o : Int32 × MS} {I : Nat → Int32} {A : Nat → Nat → Int32}  (hf : f_goes_37 I A = some o) : FrS [] [] I A o.2.1 o.2.2 := by
  have hR : FrS [] [] I A I A := frs_0
  unfold f_goes_37 at hf
  obtain ⟨-, hf⟩ := m_chkE hf
  cases hf
  exact hR
theorem fw_goes_315 {o : Int32 × MS} {t0 : Int32} {I : Nat → Int32} {A : Nat → Nat → Int32}  (hf : f_goes_315 t0 I A = some o) : FrS [] [] I A o.2.1 o.2.2 := by
  have hR : FrS [] [] I A I A := frs_0
  unfold f_goes_315 at hf
  obtain ⟨-, hf⟩ := m_chkE hf
  cases hf
  exact hR
theorem fw_goes_304 {o : Int32 × MS} {x2 : Int32} {x10 : Int32} {I : Nat → Int32} {A : Nat → Nat → Int32}  (hf : f_goes_304 x2 x10 I A = some o) : FrS [] [] I A o.2.1 o.2.2 := by
  have hR : FrS [] [] I A I A := frs_0
  unfold f_goes_304 at hf
  rcases m_ifE hf with ⟨-, hf⟩ | ⟨-, hf⟩
  ·
    exact frs_t hR (fw_goes_315  hf) (fun _ h => h) (fun _ h => h)
  ·
    exact frs_t hR (fw_goes_315  hf) (fun _ h => h) (fun _ h => h)
theorem fw_goes_274s {o : Int32 × MS} {self274 : Int32 → Int32 → Int32 → Int32 → (Nat → Int32) → (Nat → Nat → Int32) → Option (Int32 × MS)} {x2 : Int32} {x8 : Int32} {x9 : Int32} {x10 : Int32} {I : Nat → Int32} {A : Nat → Nat → Int32} (hself274 : ∀ (z0 : Int32) (z1 : Int32) (z2 : Int32) (z3 : Int32) (I : Nat → Int32) (A : Nat → Nat → Int32) (o : Int32 × MS), self274 z0 z1 z2 z3 I A = some o → FrS [] [] I A o.2.1 o.2.2) (hf : f_goes_274s self274 x2 x8 x9 x10 I A = some o) : FrS [] [] I A o.2.1 o.2.2 := by
  have hR : FrS [] [] I A I A := frs_0
  unfold f_goes_274s at hf
  rcases m_ifE hf with ⟨-, hf⟩ | ⟨-, hf⟩
  ·
    exact frs_t hR (fw_goes_304  hf) (fun _ h => h) (fun _ h => h)
  ·
    obtain ⟨-, hf⟩ := m_chkE hf
    obtain ⟨v1, ev, hf⟩ := m_bndE hf
    clear ev
    rcases m_ifE hf with ⟨-, hf⟩ | ⟨-, hf⟩
    ·
      obtain ⟨or2, ho, hf⟩ := m_clE hf
      replace hR := frs_t hR (fw_step ho) (by decide) (by decide)
      clear ho
      exact frs_t hR (hself274 _ _ _ _ _ _ _ hf) (fun _ h => h) (fun _ h => h)
    ·
      exact frs_t hR (fw_goes_304  hf) (fun _ h => h) (fun _ h => h)
theorem fw_goes_274   (n : Nat) : ∀ (y0 : Int32) (y1 : Int32) (y2 : Int32) (y3 : Int32) (I : Nat → Int32) (A : Nat → Nat → Int32) (o : Int32 × MS), f_goes_274  n y0 y1 y2 y3 I A = some o → FrS [] [] I A o.2.1 o.2.2 := by
  induction n with
  | zero => intro y0 y1 y2 y3 I A o hf; cases hf
  | succ n ih => intro y0 y1 y2 y3 I A o hf; exact fw_goes_274s  ih hf
theorem fw_goes_262 {o : Int32 × MS} {x1 : Int32} {x2 : Int32} {x8 : Int32} {t0 : Int32} {I : Nat → Int32} {A : Nat → Nat → Int32}  (hf : f_goes_262 x1 x2 x8 t0 I A = some o) : FrS [] [] I A o.2.1 o.2.2 := by
  have hR : FrS [] [] I A I A := frs_0
  unfold f_goes_262 at hf
  obtain ⟨or1, ho, hf⟩ := m_clE hf
  replace hR := frs_t hR (fw_step ho) (by decide) (by decide)
  clear ho
  exact frs_t hR (fw_goes_274  mFuel _ _ _ _ _ _ _ hf) (fun _ h => h) (fun _ h => h)
theorem fw_goes_241 {o : Int32 × MS} {x1 : Int32} {x2 : Int32} {x5 : Int32} {t0 : Int32} {I : Nat → Int32} {A : Nat → Nat → Int32}  (hf : f_goes_241 x1 x2 x5 t0 I A = some o) : FrS [] [] I A o.2.1 o.2.2 := by
  have hR : FrS [] [] I A I A := frs_0
  unfold f_goes_241 at hf
  rcases m_ifE hf with ⟨-, hf⟩ | ⟨-, hf⟩
  ·
    rcases m_ifE hf with ⟨-, hf⟩ | ⟨-, hf⟩
    ·
      exact frs_t hR (fw_goes_262  hf) (fun _ h => h) (fun _ h => h)
    ·
      exact frs_t hR (fw_goes_262  hf) (fun _ h => h) (fun _ h => h)
  ·
    exact frs_t hR (fw_goes_262  hf) (fun _ h => h) (fun _ h => h)
theorem fw_goes_222 {o : Int32 × MS} {x1 : Int32} {x2 : Int32} {x4 : Int32} {x5 : Int32} {I : Nat → Int32} {A : Nat → Nat → Int32}  (hf : f_goes_222 x1 x2 x4 x5 I A = some o) : FrS [] [] I A o.2.1 o.2.2 := by
  have hR : FrS [] [] I A I A := frs_0
  unfold f_goes_222 at hf
  rcases m_ifE hf with ⟨-, hf⟩ | ⟨-, hf⟩
  ·
    rcases m_ifE hf with ⟨-, hf⟩ | ⟨-, hf⟩
    ·
      exact frs_t hR (fw_goes_241  hf) (fun _ h => h) (fun _ h => h)
    ·
      exact frs_t hR (fw_goes_241  hf) (fun _ h => h) (fun _ h => h)
  ·
    exact frs_t hR (fw_goes_241  hf) (fun _ h => h) (fun _ h => h)
theorem fw_goes_220 {o : Int32 × MS} {I : Nat → Int32} {A : Nat → Nat → Int32}  (hf : f_goes_220 I A = some o) : FrS [] [] I A o.2.1 o.2.2 := by
  have hR : FrS [] [] I A I A := frs_0
  unfold f_goes_220 at hf
  obtain ⟨-, hf⟩ := m_chkE hf
  cases hf
  exact hR
theorem fw_goes_210 {o : Int32 × MS} {x1 : Int32} {x2 : Int32} {x3 : Int32} {x4 : Int32} {x5 : Int32} {x7 : Int32} {I : Nat → Int32} {A : Nat → Nat → Int32}  (hf : f_goes_210 x1 x2 x3 x4 x5 x7 I A = some o) : FrS [] [] I A o.2.1 o.2.2 := by
  have hR : FrS [] [] I A I A := frs_0
  unfold f_goes_210 at hf
  rcases m_ifE hf with ⟨-, hf⟩ | ⟨-, hf⟩
  ·
    rcases m_ifE hf with ⟨-, hf⟩ | ⟨-, hf⟩
    ·
      exact frs_t hR (fw_goes_220  hf) (fun _ h => h) (fun _ h => h)
    ·
      exact frs_t hR (fw_goes_222  hf) (fun _ h => h) (fun _ h => h)
  ·
    exact frs_t hR (fw_goes_222  hf) (fun _ h => h) (fun _ h => h)
theorem fw_goes_200 {o : Int32 × MS} {x1 : Int32} {x2 : Int32} {x3 : Int32} {x4 : Int32} {x5 : Int32} {x7 : Int32} {I : Nat → Int32} {A : Nat → Nat → Int32}  (hf : f_goes_200 x1 x2 x3 x4 x5 x7 I A = some o) : FrS [] [] I A o.2.1 o.2.2 := by
  have hR : FrS [] [] I A I A := frs_0
  unfold f_goes_200 at hf
  rcases m_ifE hf with ⟨-, hf⟩ | ⟨-, hf⟩
  ·
    exact frs_t hR (fw_goes_210  hf) (fun _ h => h) (fun _ h => h)
  ·
    rcases m_ifE hf with ⟨-, hf⟩ | ⟨-, hf⟩
    ·
      exact frs_t hR (fw_goes_220  hf) (fun _ h => h) (fun _ h => h)
    ·
      exact frs_t hR (fw_goes_210  hf) (fun _ h => h) (fun _ h => h)
theorem fw_goes_178 {o : Int32 × MS} {x1 : Int32} {x2 : Int32} {x3 : Int32} {x4 : Int32} {x5 : Int32} {t0 : Int32} {I : Nat → Int32} {A : Nat → Nat → Int32}  (hf : f_goes_178 x1 x2 x3 x4 x5 t0 I A = some o) : FrS [] [] I A o.2.1 o.2.2 := by
  have hR : FrS [] [] I A I A := frs_0
  unfold f_goes_178 at hf
  rcases m_ifE hf with ⟨-, hf⟩ | ⟨-, hf⟩
  ·
    rcases m_ifE hf with ⟨-, hf⟩ | ⟨-, hf⟩
    ·
      exact frs_t hR (fw_goes_200  hf) (fun _ h => h) (fun _ h => h)
    ·
      obtain ⟨v1, ev, hf⟩ := m_bndE hf
      clear ev
      rcases m_ifE hf with ⟨-, hf⟩ | ⟨-, hf⟩
      ·
        exact frs_t hR (fw_goes_200  hf) (fun _ h => h) (fun _ h => h)
      ·
        exact frs_t hR (fw_goes_220  hf) (fun _ h => h) (fun _ h => h)
  ·
    exact frs_t hR (fw_goes_200  hf) (fun _ h => h) (fun _ h => h)
theorem fw_goes_173 {o : Int32 × MS} {x1 : Int32} {x2 : Int32} {x3 : Int32} {x4 : Int32} {x5 : Int32} {I : Nat → Int32} {A : Nat → Nat → Int32}  (hf : f_goes_173 x1 x2 x3 x4 x5 I A = some o) : FrS [] [] I A o.2.1 o.2.2 := by
  have hR : FrS [] [] I A I A := frs_0
  unfold f_goes_173 at hf
  exact frs_t hR (fw_goes_178  hf) (fun _ h => h) (fun _ h => h)
theorem fw_goes_162 {o : Int32 × MS} {t0 : Int32} {I : Nat → Int32} {A : Nat → Nat → Int32}  (hf : f_goes_162 t0 I A = some o) : FrS [] [] I A o.2.1 o.2.2 := by
  have hR : FrS [] [] I A I A := frs_0
  unfold f_goes_162 at hf
  obtain ⟨-, hf⟩ := m_chkE hf
  cases hf
  exact hR
theorem fw_goes_157 {o : Int32 × MS} {I : Nat → Int32} {A : Nat → Nat → Int32}  (hf : f_goes_157 I A = some o) : FrS [] [] I A o.2.1 o.2.2 := by
  have hR : FrS [] [] I A I A := frs_0
  unfold f_goes_157 at hf
  exact frs_t hR (fw_goes_162  hf) (fun _ h => h) (fun _ h => h)
theorem fw_goes_161 {o : Int32 × MS} {I : Nat → Int32} {A : Nat → Nat → Int32}  (hf : f_goes_161 I A = some o) : FrS [] [] I A o.2.1 o.2.2 := by
  have hR : FrS [] [] I A I A := frs_0
  unfold f_goes_161 at hf
  exact frs_t hR (fw_goes_162  hf) (fun _ h => h) (fun _ h => h)
theorem fw_goes_112 {o : Int32 × MS} {t0 : Int32} {I : Nat → Int32} {A : Nat → Nat → Int32}  (hf : f_goes_112 t0 I A = some o) : FrS [] [] I A o.2.1 o.2.2 := by
  have hR : FrS [] [] I A I A := frs_0
  unfold f_goes_112 at hf
  obtain ⟨-, hf⟩ := m_chkE hf
  cases hf
  exact hR
theorem fw_goes_0 {o : Int32 × MS} {x1 : Int32} {x2 : Int32} {I : Nat → Int32} {A : Nat → Nat → Int32}  (hf : f_goes_0 x1 x2 I A = some o) : FrS [] [] I A o.2.1 o.2.2 := by
  have hR : FrS [] [] I A I A := frs_0
  unfold f_goes_0 at hf
  obtain ⟨-, hf⟩ := m_chkE hf
  obtain ⟨v1, ev, hf⟩ := m_bndE hf
  clear ev
  obtain ⟨or2, ho, hf⟩ := m_clE hf
  replace hR := frs_t hR (fw_sideOf ho) (by decide) (by decide)
  clear ho
  rcases m_ifE hf with ⟨-, hf⟩ | ⟨-, hf⟩
  ·
    obtain ⟨-, hf⟩ := m_chkE hf
    obtain ⟨v3, ev, hf⟩ := m_bndE hf
    clear ev
    obtain ⟨or4, ho, hf⟩ := m_clE hf
    replace hR := frs_t hR (fw_sideOf ho) (by decide) (by decide)
    clear ho
    rcases m_ifE hf with ⟨-, hf⟩ | ⟨-, hf⟩
    ·
      exact frs_t hR (fw_goes_37  hf) (fun _ h => h) (fun _ h => h)
    ·
      rcases m_ifE hf with ⟨-, hf⟩ | ⟨-, hf⟩
      ·
        exact frs_t hR (fw_goes_37  hf) (fun _ h => h) (fun _ h => h)
      ·
        obtain ⟨-, hf⟩ := m_chkE hf
        obtain ⟨v5, ev, hf⟩ := m_bndE hf
        clear ev
        obtain ⟨or6, ho, hf⟩ := m_clE hf
        replace hR := frs_t hR (fw_kind ho) (by decide) (by decide)
        clear ho
        rcases m_ifE hf with ⟨-, hf⟩ | ⟨-, hf⟩
        ·
          obtain ⟨or19, ho, hf⟩ := m_clE hf
          replace hR := frs_t hR (fw_pawnGoes ho) (by decide) (by decide)
          clear ho
          obtain ⟨-, hf⟩ := m_chkE hf
          cases hf
          exact hR
        ·
          obtain ⟨v7, ev, hf⟩ := m_bndE hf
          clear ev
          obtain ⟨v8, ev, hf⟩ := m_bndE hf
          clear ev
          obtain ⟨v9, ev, hf⟩ := m_bndE hf
          clear ev
          obtain ⟨v10, ev, hf⟩ := m_bndE hf
          clear ev
          obtain ⟨v11, ev, hf⟩ := m_bndE hf
          clear ev
          obtain ⟨v12, ev, hf⟩ := m_bndE hf
          clear ev
          obtain ⟨v13, ev, hf⟩ := m_bndE hf
          clear ev
          obtain ⟨v14, ev, hf⟩ := m_bndE hf
          clear ev
          obtain ⟨v15, ev, hf⟩ := m_bndE hf
          clear ev
          rcases m_ifE hf with ⟨-, hf⟩ | ⟨-, hf⟩
          ·
            rcases m_ifE hf with ⟨-, hf⟩ | ⟨-, hf⟩
            ·
              exact frs_t hR (fw_goes_112  hf) (fun _ h => h) (fun _ h => h)
            ·
              exact frs_t hR (fw_goes_112  hf) (fun _ h => h) (fun _ h => h)
          ·
            rcases m_ifE hf with ⟨-, hf⟩ | ⟨-, hf⟩
            ·
              rcases m_ifE hf with ⟨-, hf⟩ | ⟨-, hf⟩
              ·
                exact frs_t hR (fw_goes_157  hf) (fun _ h => h) (fun _ h => h)
              ·
                obtain ⟨v16, ev, hf⟩ := m_bndE hf
                clear ev
                obtain ⟨v17, ev, hf⟩ := m_bndE hf
                clear ev
                rcases m_ifE hf with ⟨-, hf⟩ | ⟨-, hf⟩
                ·
                  rcases m_ifE hf with ⟨-, hf⟩ | ⟨-, hf⟩
                  ·
                    rcases m_ifE hf with ⟨-, hf⟩ | ⟨-, hf⟩
                    ·
                      obtain ⟨or18, ho, hf⟩ := m_clE hf
                      replace hR := frs_t hR (fw_mayCastle ho) (by decide) (by decide)
                      clear ho
                      rcases m_ifE hf with ⟨-, hf⟩ | ⟨-, hf⟩
                      ·
                        exact frs_t hR (fw_goes_161  hf) (fun _ h => h) (fun _ h => h)
                      ·
                        exact frs_t hR (fw_goes_157  hf) (fun _ h => h) (fun _ h => h)
                    ·
                      exact frs_t hR (fw_goes_161  hf) (fun _ h => h) (fun _ h => h)
                  ·
                    exact frs_t hR (fw_goes_161  hf) (fun _ h => h) (fun _ h => h)
                ·
                  exact frs_t hR (fw_goes_161  hf) (fun _ h => h) (fun _ h => h)
            ·
              rcases m_ifE hf with ⟨-, hf⟩ | ⟨-, hf⟩
              ·
                exact frs_t hR (fw_goes_173  hf) (fun _ h => h) (fun _ h => h)
              ·
                rcases m_ifE hf with ⟨-, hf⟩ | ⟨-, hf⟩
                ·
                  exact frs_t hR (fw_goes_173  hf) (fun _ h => h) (fun _ h => h)
                ·
                  exact frs_t hR (fw_goes_178  hf) (fun _ h => h) (fun _ h => h)
  ·
    exact frs_t hR (fw_goes_37  hf) (fun _ h => h) (fun _ h => h)
theorem fw_goes {o : Int32 × MS} {x1 : Int32} {x2 : Int32} {I : Nat → Int32} {A : Nat → Nat → Int32} (hf : f_goes x1 x2 I A = some o) : FrS [] [] I A o.2.1 o.2.2 := fw_goes_0  hf
theorem fw_kingOf_31 {o : Int32 × MS} {self4 : Int32 → Int32 → Int32 → (Nat → Int32) → (Nat → Nat → Int32) → Option (Int32 × MS)} {x1 : Int32} {x3 : Int32} {t0 : Int32} {I : Nat → Int32} {A : Nat → Nat → Int32} (hself4 : ∀ (z0 : Int32) (z1 : Int32) (z2 : Int32) (I : Nat → Int32) (A : Nat → Nat → Int32) (o : Int32 × MS), self4 z0 z1 z2 I A = some o → FrS [] [] I A o.2.1 o.2.2) (hf : f_kingOf_31 self4 x1 x3 t0 I A = some o) : FrS [] [] I A o.2.1 o.2.2 := by
  have hR : FrS [] [] I A I A := frs_0
  unfold f_kingOf_31 at hf
  obtain ⟨v1, ev, hf⟩ := m_bndE hf
  clear ev
  exact frs_t hR (hself4 _ _ _ _ _ _ hf) (fun _ h => h) (fun _ h => h)
theorem fw_kingOf_4s {o : Int32 × MS} {self4 : Int32 → Int32 → Int32 → (Nat → Int32) → (Nat → Nat → Int32) → Option (Int32 × MS)} {x1 : Int32} {x2 : Int32} {x3 : Int32} {I : Nat → Int32} {A : Nat → Nat → Int32} (hself4 : ∀ (z0 : Int32) (z1 : Int32) (z2 : Int32) (I : Nat → Int32) (A : Nat → Nat → Int32) (o : Int32 × MS), self4 z0 z1 z2 I A = some o → FrS [] [] I A o.2.1 o.2.2) (hf : f_kingOf_4s self4 x1 x2 x3 I A = some o) : FrS [] [] I A o.2.1 o.2.2 := by
  have hR : FrS [] [] I A I A := frs_0
  unfold f_kingOf_4s at hf
  rcases m_ifE hf with ⟨-, hf⟩ | ⟨-, hf⟩
  ·
    cases hf
    exact hR
  ·
    obtain ⟨-, hf⟩ := m_chkE hf
    obtain ⟨v1, ev, hf⟩ := m_bndE hf
    clear ev
    obtain ⟨v2, ev, hf⟩ := m_bndE hf
    clear ev
    obtain ⟨v3, ev, hf⟩ := m_bndE hf
    clear ev
    rcases m_ifE hf with ⟨-, hf⟩ | ⟨-, hf⟩
    ·
      exact frs_t hR (fw_kingOf_31 hself4 hf) (fun _ h => h) (fun _ h => h)
    ·
      exact frs_t hR (fw_kingOf_31 hself4 hf) (fun _ h => h) (fun _ h => h)
theorem fw_kingOf_4   (n : Nat) : ∀ (y0 : Int32) (y1 : Int32) (y2 : Int32) (I : Nat → Int32) (A : Nat → Nat → Int32) (o : Int32 × MS), f_kingOf_4  n y0 y1 y2 I A = some o → FrS [] [] I A o.2.1 o.2.2 := by
  induction n with
  | zero => intro y0 y1 y2 I A o hf; cases hf
  | succ n ih => intro y0 y1 y2 I A o hf; exact fw_kingOf_4s  ih hf
theorem fw_kingOf_0 {o : Int32 × MS} {x1 : Int32} {I : Nat → Int32} {A : Nat → Nat → Int32}  (hf : f_kingOf_0 x1 I A = some o) : FrS [] [] I A o.2.1 o.2.2 := by
  have hR : FrS [] [] I A I A := frs_0
  unfold f_kingOf_0 at hf
  exact frs_t hR (fw_kingOf_4  mFuel _ _ _ _ _ _ hf) (fun _ h => h) (fun _ h => h)
theorem fw_kingOf {o : Int32 × MS} {x1 : Int32} {I : Nat → Int32} {A : Nat → Nat → Int32} (hf : f_kingOf x1 I A = some o) : FrS [] [] I A o.2.1 o.2.2 := fw_kingOf_0  hf
theorem fw_isInCheck_0 {o : Int32 × MS} {x1 : Int32} {I : Nat → Int32} {A : Nat → Nat → Int32}  (hf : f_isInCheck_0 x1 I A = some o) : FrS [] [] I A o.2.1 o.2.2 := by
  have hR : FrS [] [] I A I A := frs_0
  unfold f_isInCheck_0 at hf
  obtain ⟨or1, ho, hf⟩ := m_clE hf
  replace hR := frs_t hR (fw_kingOf ho) (by decide) (by decide)
  clear ho
  obtain ⟨v2, ev, hf⟩ := m_bndE hf
  clear ev
  obtain ⟨or3, ho, hf⟩ := m_clE hf
  replace hR := frs_t hR (fw_isAttacked ho) (by decide) (by decide)
  clear ho
  obtain ⟨-, hf⟩ := m_chkE hf
  cases hf
  exact hR
theorem fw_isInCheck {o : Int32 × MS} {x1 : Int32} {I : Nat → Int32} {A : Nat → Nat → Int32} (hf : f_isInCheck x1 I A = some o) : FrS [] [] I A o.2.1 o.2.2 := fw_isInCheck_0  hf
theorem fw_findMoves_163 {o : Int32 × MS} {self7 : Int32 → (Nat → Int32) → (Nat → Nat → Int32) → Option (Int32 × MS)} {x1 : Int32} {I : Nat → Int32} {A : Nat → Nat → Int32} (hself7 : ∀ (z0 : Int32) (I : Nat → Int32) (A : Nat → Nat → Int32) (o : Int32 × MS), self7 z0 I A = some o → FrS [33] [30, 31, 32] I A o.2.1 o.2.2) (hf : f_findMoves_163 self7 x1 I A = some o) : FrS [33] [30, 31, 32] I A o.2.1 o.2.2 := by
  have hR : FrS [33] [30, 31, 32] I A I A := frs_0
  unfold f_findMoves_163 at hf
  obtain ⟨v1, ev, hf⟩ := m_bndE hf
  clear ev
  exact frs_t hR (hself7 _ _ _ _ hf) (fun _ h => h) (fun _ h => h)
theorem fw_findMoves_157 {o : Int32 × MS} {self7 : Int32 → (Nat → Int32) → (Nat → Nat → Int32) → Option (Int32 × MS)} {self15 : Int32 → Int32 → (Nat → Int32) → (Nat → Nat → Int32) → Option (Int32 × MS)} {x1 : Int32} {x2 : Int32} {I : Nat → Int32} {A : Nat → Nat → Int32} (hself7 : ∀ (z0 : Int32) (I : Nat → Int32) (A : Nat → Nat → Int32) (o : Int32 × MS), self7 z0 I A = some o → FrS [33] [30, 31, 32] I A o.2.1 o.2.2) (hself15 : ∀ (z0 : Int32) (z1 : Int32) (I : Nat → Int32) (A : Nat → Nat → Int32) (o : Int32 × MS), self15 z0 z1 I A = some o → FrS [33] [30, 31, 32] I A o.2.1 o.2.2) (hf : f_findMoves_157 self7 self15 x1 x2 I A = some o) : FrS [33] [30, 31, 32] I A o.2.1 o.2.2 := by
  have hR : FrS [33] [30, 31, 32] I A I A := frs_0
  unfold f_findMoves_157 at hf
  obtain ⟨v1, ev, hf⟩ := m_bndE hf
  clear ev
  exact frs_t hR (hself15 _ _ _ _ _ hf) (fun _ h => h) (fun _ h => h)
theorem fw_findMoves_116 {o : Int32 × MS} {self7 : Int32 → (Nat → Int32) → (Nat → Nat → Int32) → Option (Int32 × MS)} {self15 : Int32 → Int32 → (Nat → Int32) → (Nat → Nat → Int32) → Option (Int32 × MS)} {self100 : Int32 → Int32 → Int32 → Int32 → Int32 → (Nat → Int32) → (Nat → Nat → Int32) → Option (Int32 × MS)} {x1 : Int32} {x2 : Int32} {x3 : Int32} {x4 : Int32} {x5 : Int32} {t0 : Int32} {t1 : Int32} {I : Nat → Int32} {A : Nat → Nat → Int32} (hself7 : ∀ (z0 : Int32) (I : Nat → Int32) (A : Nat → Nat → Int32) (o : Int32 × MS), self7 z0 I A = some o → FrS [33] [30, 31, 32] I A o.2.1 o.2.2) (hself15 : ∀ (z0 : Int32) (z1 : Int32) (I : Nat → Int32) (A : Nat → Nat → Int32) (o : Int32 × MS), self15 z0 z1 I A = some o → FrS [33] [30, 31, 32] I A o.2.1 o.2.2) (hself100 : ∀ (z0 : Int32) (z1 : Int32) (z2 : Int32) (z3 : Int32) (z4 : Int32) (I : Nat → Int32) (A : Nat → Nat → Int32) (o : Int32 × MS), self100 z0 z1 z2 z3 z4 I A = some o → FrS [33] [30, 31, 32] I A o.2.1 o.2.2) (hf : f_findMoves_116 self7 self15 self100 x1 x2 x3 x4 x5 t0 t1 I A = some o) : FrS [33] [30, 31, 32] I A o.2.1 o.2.2 := by
  have hR : FrS [33] [30, 31, 32] I A I A := frs_0
  unfold f_findMoves_116 at hf
  rcases m_ifE hf with ⟨-, hf⟩ | ⟨-, hf⟩
  ·
    exact frs_t hR (fw_findMoves_157 hself7 hself15 hf) (fun _ h => h) (fun _ h => h)
  ·
    obtain ⟨v1, ev, hf⟩ := m_bndE hf
    clear ev
    obtain ⟨v2, ev, hf⟩ := m_bndE hf
    clear ev
    obtain ⟨v3, ev, hf⟩ := m_bndE hf
    clear ev
    obtain ⟨v4, ev, hf⟩ := m_bndE hf
    clear ev
    obtain ⟨-, hf⟩ := m_chkE hf
    obtain ⟨A5, ev, hf⟩ := m_bndE hf
    replace hR := frs_A hR (by decide) ev
    clear ev
    obtain ⟨v6, ev, hf⟩ := m_bndE hf
    clear ev
    obtain ⟨I7, ev, hf⟩ := m_bndE hf
    replace hR := frs_I hR (by decide) ev
    clear ev
    obtain ⟨v8, ev, hf⟩ := m_bndE hf
    clear ev
    exact frs_t hR (hself100 _ _ _ _ _ _ _ _ hf) (fun _ h => h) (fun _ h => h)
theorem fw_findMoves_100s {o : Int32 × MS} {self7 : Int32 → (Nat → Int32) → (Nat → Nat → Int32) → Option (Int32 × MS)} {self15 : Int32 → Int32 → (Nat → Int32) → (Nat → Nat → Int32) → Option (Int32 × MS)} {self100 : Int32 → Int32 → Int32 → Int32 → Int32 → (Nat → Int32) → (Nat → Nat → Int32) → Option (Int32 × MS)} {x1 : Int32} {x2 : Int32} {x3 : Int32} {x4 : Int32} {x5 : Int32} {I : Nat → Int32} {A : Nat → Nat → Int32} (hself7 : ∀ (z0 : Int32) (I : Nat → Int32) (A : Nat → Nat → Int32) (o : Int32 × MS), self7 z0 I A = some o → FrS [33] [30, 31, 32] I A o.2.1 o.2.2) (hself15 : ∀ (z0 : Int32) (z1 : Int32) (I : Nat → Int32) (A : Nat → Nat → Int32) (o : Int32 × MS), self15 z0 z1 I A = some o → FrS [33] [30, 31, 32] I A o.2.1 o.2.2) (hself100 : ∀ (z0 : Int32) (z1 : Int32) (z2 : Int32) (z3 : Int32) (z4 : Int32) (I : Nat → Int32) (A : Nat → Nat → Int32) (o : Int32 × MS), self100 z0 z1 z2 z3 z4 I A = some o → FrS [33] [30, 31, 32] I A o.2.1 o.2.2) (hf : f_findMoves_100s self7 self15 self100 x1 x2 x3 x4 x5 I A = some o) : FrS [33] [30, 31, 32] I A o.2.1 o.2.2 := by
  have hR : FrS [33] [30, 31, 32] I A I A := frs_0
  unfold f_findMoves_100s at hf
  rcases m_ifE hf with ⟨-, hf⟩ | ⟨-, hf⟩
  ·
    exact frs_t hR (fw_findMoves_157 hself7 hself15 hf) (fun _ h => h) (fun _ h => h)
  ·
    rcases m_ifE hf with ⟨-, hf⟩ | ⟨-, hf⟩
    ·
      exact frs_t hR (fw_findMoves_116 hself7 hself15 hself100 hf) (fun _ h => h) (fun _ h => h)
    ·
      exact frs_t hR (fw_findMoves_116 hself7 hself15 hself100 hf) (fun _ h => h) (fun _ h => h)
theorem fw_findMoves_100 {self7 : Int32 → (Nat → Int32) → (Nat → Nat → Int32) → Option (Int32 × MS)} {self15 : Int32 → Int32 → (Nat → Int32) → (Nat → Nat → Int32) → Option (Int32 × MS)} (hself7 : ∀ (z0 : Int32) (I : Nat → Int32) (A : Nat → Nat → Int32) (o : Int32 × MS), self7 z0 I A = some o → FrS [33] [30, 31, 32] I A o.2.1 o.2.2) (hself15 : ∀ (z0 : Int32) (z1 : Int32) (I : Nat → Int32) (A : Nat → Nat → Int32) (o : Int32 × MS), self15 z0 z1 I A = some o → FrS [33] [30, 31, 32] I A o.2.1 o.2.2) (n : Nat) : ∀ (y0 : Int32) (y1 : Int32) (y2 : Int32) (y3 : Int32) (y4 : Int32) (I : Nat → Int32) (A : Nat → Nat → Int32) (o : Int32 × MS), f_findMoves_100 self7 self15 n y0 y1 y2 y3 y4 I A = some o → FrS [33] [30, 31, 32] I A o.2.1 o.2.2 := by
  induction n with
  | zero => intro y0 y1 y2 y3 y4 I A o hf; cases hf
  | succ n ih => intro y0 y1 y2 y3 y4 I A o hf; exact fw_findMoves_100s hself7 hself15 ih hf
theorem fw_findMoves_98 {o : Int32 × MS} {self7 : Int32 → (Nat → Int32) → (Nat → Nat → Int32) → Option (Int32 × MS)} {self15 : Int32 → Int32 → (Nat → Int32) → (Nat → Nat → Int32) → Option (Int32 × MS)} {x1 : Int32} {x2 : Int32} {x3 : Int32} {x4 : Int32} {t0 : Int32} {I : Nat → Int32} {A : Nat → Nat → Int32} (hself7 : ∀ (z0 : Int32) (I : Nat → Int32) (A : Nat → Nat → Int32) (o : Int32 × MS), self7 z0 I A = some o → FrS [33] [30, 31, 32] I A o.2.1 o.2.2) (hself15 : ∀ (z0 : Int32) (z1 : Int32) (I : Nat → Int32) (A : Nat → Nat → Int32) (o : Int32 × MS), self15 z0 z1 I A = some o → FrS [33] [30, 31, 32] I A o.2.1 o.2.2) (hf : f_findMoves_98 self7 self15 x1 x2 x3 x4 t0 I A = some o) : FrS [33] [30, 31, 32] I A o.2.1 o.2.2 := by
  have hR : FrS [33] [30, 31, 32] I A I A := frs_0
  unfold f_findMoves_98 at hf
  exact frs_t hR (fw_findMoves_100 hself7 hself15 mFuel _ _ _ _ _ _ _ _ hf) (fun _ h => h) (fun _ h => h)
theorem fw_findMoves_76 {o : Int32 × MS} {self7 : Int32 → (Nat → Int32) → (Nat → Nat → Int32) → Option (Int32 × MS)} {self15 : Int32 → Int32 → (Nat → Int32) → (Nat → Nat → Int32) → Option (Int32 × MS)} {x1 : Int32} {x2 : Int32} {t0 : Int32} {I : Nat → Int32} {A : Nat → Nat → Int32} (hself7 : ∀ (z0 : Int32) (I : Nat → Int32) (A : Nat → Nat → Int32) (o : Int32 × MS), self7 z0 I A = some o → FrS [33] [30, 31, 32] I A o.2.1 o.2.2) (hself15 : ∀ (z0 : Int32) (z1 : Int32) (I : Nat → Int32) (A : Nat → Nat → Int32) (o : Int32 × MS), self15 z0 z1 I A = some o → FrS [33] [30, 31, 32] I A o.2.1 o.2.2) (hf : f_findMoves_76 self7 self15 x1 x2 t0 I A = some o) : FrS [33] [30, 31, 32] I A o.2.1 o.2.2 := by
  have hR : FrS [33] [30, 31, 32] I A I A := frs_0
  unfold f_findMoves_76 at hf
  obtain ⟨v1, ev, hf⟩ := m_bndE hf
  clear ev
  obtain ⟨v2, ev, hf⟩ := m_bndE hf
  clear ev
  obtain ⟨or3, ho, hf⟩ := m_clE hf
  replace hR := frs_t hR (fw_isSafe ho) (by decide) (by decide)
  clear ho
  rcases m_ifE hf with ⟨-, hf⟩ | ⟨-, hf⟩
  ·
    exact frs_t hR (fw_findMoves_98 hself7 hself15 hf) (fun _ h => h) (fun _ h => h)
  ·
    exact frs_t hR (fw_findMoves_98 hself7 hself15 hf) (fun _ h => h) (fun _ h => h)
theorem fw_findMoves_75 {o : Int32 × MS} {self7 : Int32 → (Nat → Int32) → (Nat → Nat → Int32) → Option (Int32 × MS)} {self15 : Int32 → Int32 → (Nat → Int32) → (Nat → Nat → Int32) → Option (Int32 × MS)} {x1 : Int32} {x2 : Int32} {I : Nat → Int32} {A : Nat → Nat → Int32} (hself7 : ∀ (z0 : Int32) (I : Nat → Int32) (A : Nat → Nat → Int32) (o : Int32 × MS), self7 z0 I A = some o → FrS [33] [30, 31, 32] I A o.2.1 o.2.2) (hself15 : ∀ (z0 : Int32) (z1 : Int32) (I : Nat → Int32) (A : Nat → Nat → Int32) (o : Int32 × MS), self15 z0 z1 I A = some o → FrS [33] [30, 31, 32] I A o.2.1 o.2.2) (hf : f_findMoves_75 self7 self15 x1 x2 I A = some o) : FrS [33] [30, 31, 32] I A o.2.1 o.2.2 := by
  have hR : FrS [33] [30, 31, 32] I A I A := frs_0
  unfold f_findMoves_75 at hf
  exact frs_t hR (fw_findMoves_76 hself7 hself15 hf) (fun _ h => h) (fun _ h => h)
theorem fw_findMoves_71 {o : Int32 × MS} {self7 : Int32 → (Nat → Int32) → (Nat → Nat → Int32) → Option (Int32 × MS)} {self15 : Int32 → Int32 → (Nat → Int32) → (Nat → Nat → Int32) → Option (Int32 × MS)} {x1 : Int32} {x2 : Int32} {I : Nat → Int32} {A : Nat → Nat → Int32} (hself7 : ∀ (z0 : Int32) (I : Nat → Int32) (A : Nat → Nat → Int32) (o : Int32 × MS), self7 z0 I A = some o → FrS [33] [30, 31, 32] I A o.2.1 o.2.2) (hself15 : ∀ (z0 : Int32) (z1 : Int32) (I : Nat → Int32) (A : Nat → Nat → Int32) (o : Int32 × MS), self15 z0 z1 I A = some o → FrS [33] [30, 31, 32] I A o.2.1 o.2.2) (hf : f_findMoves_71 self7 self15 x1 x2 I A = some o) : FrS [33] [30, 31, 32] I A o.2.1 o.2.2 := by
  have hR : FrS [33] [30, 31, 32] I A I A := frs_0
  unfold f_findMoves_71 at hf
  exact frs_t hR (fw_findMoves_76 hself7 hself15 hf) (fun _ h => h) (fun _ h => h)
theorem fw_findMoves_15s {o : Int32 × MS} {self7 : Int32 → (Nat → Int32) → (Nat → Nat → Int32) → Option (Int32 × MS)} {self15 : Int32 → Int32 → (Nat → Int32) → (Nat → Nat → Int32) → Option (Int32 × MS)} {x1 : Int32} {x2 : Int32} {I : Nat → Int32} {A : Nat → Nat → Int32} (hself7 : ∀ (z0 : Int32) (I : Nat → Int32) (A : Nat → Nat → Int32) (o : Int32 × MS), self7 z0 I A = some o → FrS [33] [30, 31, 32] I A o.2.1 o.2.2) (hself15 : ∀ (z0 : Int32) (z1 : Int32) (I : Nat → Int32) (A : Nat → Nat → Int32) (o : Int32 × MS), self15 z0 z1 I A = some o → FrS [33] [30, 31, 32] I A o.2.1 o.2.2) (hf : f_findMoves_15s self7 self15 x1 x2 I A = some o) : FrS [33] [30, 31, 32] I A o.2.1 o.2.2 := by
  have hR : FrS [33] [30, 31, 32] I A I A := frs_0
  unfold f_findMoves_15s at hf
  rcases m_ifE hf with ⟨-, hf⟩ | ⟨-, hf⟩
  ·
    exact frs_t hR (fw_findMoves_163 hself7 hf) (fun _ h => h) (fun _ h => h)
  ·
    obtain ⟨-, hf⟩ := m_chkE hf
    obtain ⟨v1, ev, hf⟩ := m_bndE hf
    clear ev
    obtain ⟨or2, ho, hf⟩ := m_clE hf
    replace hR := frs_t hR (fw_sideOf ho) (by decide) (by decide)
    clear ho
    rcases m_ifE hf with ⟨-, hf⟩ | ⟨-, hf⟩
    ·
      obtain ⟨or3, ho, hf⟩ := m_clE hf
      replace hR := frs_t hR (fw_goes ho) (by decide) (by decide)
      clear ho
      rcases m_ifE hf with ⟨-, hf⟩ | ⟨-, hf⟩
      ·
        exact frs_t hR (fw_findMoves_157 hself7 hself15 hf) (fun _ h => h) (fun _ h => h)
      ·
        obtain ⟨-, hf⟩ := m_chkE hf
        obtain ⟨v4, ev, hf⟩ := m_bndE hf
        clear ev
        obtain ⟨or5, ho, hf⟩ := m_clE hf
        replace hR := frs_t hR (fw_kind ho) (by decide) (by decide)
        clear ho
        rcases m_ifE hf with ⟨-, hf⟩ | ⟨-, hf⟩
        ·
          rcases m_ifE hf with ⟨-, hf⟩ | ⟨-, hf⟩
          ·
            exact frs_t hR (fw_findMoves_71 hself7 hself15 hf) (fun _ h => h) (fun _ h => h)
          ·
            rcases m_ifE hf with ⟨-, hf⟩ | ⟨-, hf⟩
            ·
              exact frs_t hR (fw_findMoves_75 hself7 hself15 hf) (fun _ h => h) (fun _ h => h)
            ·
              exact frs_t hR (fw_findMoves_71 hself7 hself15 hf) (fun _ h => h) (fun _ h => h)
        ·
          exact frs_t hR (fw_findMoves_75 hself7 hself15 hf) (fun _ h => h) (fun _ h => h)
    ·
      exact frs_t hR (fw_findMoves_163 hself7 hf) (fun _ h => h) (fun _ h => h)
theorem fw_findMoves_15 {self7 : Int32 → (Nat → Int32) → (Nat → Nat → Int32) → Option (Int32 × MS)} (hself7 : ∀ (z0 : Int32) (I : Nat → Int32) (A : Nat → Nat → Int32) (o : Int32 × MS), self7 z0 I A = some o → FrS [33] [30, 31, 32] I A o.2.1 o.2.2) (n : Nat) : ∀ (y0 : Int32) (y1 : Int32) (I : Nat → Int32) (A : Nat → Nat → Int32) (o : Int32 × MS), f_findMoves_15 self7 n y0 y1 I A = some o → FrS [33] [30, 31, 32] I A o.2.1 o.2.2 := by
  induction n with
  | zero => intro y0 y1 I A o hf; cases hf
  | succ n ih => intro y0 y1 I A o hf; exact fw_findMoves_15s hself7 ih hf
theorem fw_findMoves_7s {o : Int32 × MS} {self7 : Int32 → (Nat → Int32) → (Nat → Nat → Int32) → Option (Int32 × MS)} {x1 : Int32} {I : Nat → Int32} {A : Nat → Nat → Int32} (hself7 : ∀ (z0 : Int32) (I : Nat → Int32) (A : Nat → Nat → Int32) (o : Int32 × MS), self7 z0 I A = some o → FrS [33] [30, 31, 32] I A o.2.1 o.2.2) (hf : f_findMoves_7s self7 x1 I A = some o) : FrS [33] [30, 31, 32] I A o.2.1 o.2.2 := by
  have hR : FrS [33] [30, 31, 32] I A I A := frs_0
  unfold f_findMoves_7s at hf
  rcases m_ifE hf with ⟨-, hf⟩ | ⟨-, hf⟩
  ·
    cases hf
    exact hR
  ·
    exact frs_t hR (fw_findMoves_15 hself7 mFuel _ _ _ _ _ hf) (fun _ h => h) (fun _ h => h)
theorem fw_findMoves_7   (n : Nat) : ∀ (y0 : Int32) (I : Nat → Int32) (A : Nat → Nat → Int32) (o : Int32 × MS), f_findMoves_7  n y0 I A = some o → FrS [33] [30, 31, 32] I A o.2.1 o.2.2 := by
  induction n with
  | zero => intro y0 I A o hf; cases hf
  | succ n ih => intro y0 I A o hf; exact fw_findMoves_7s  ih hf
theorem fw_findMoves_0 {o : Int32 × MS} {I : Nat → Int32} {A : Nat → Nat → Int32}  (hf : f_findMoves_0 I A = some o) : FrS [33] [30, 31, 32] I A o.2.1 o.2.2 := by
  have hR : FrS [33] [30, 31, 32] I A I A := frs_0
  unfold f_findMoves_0 at hf
  obtain ⟨I1, ev, hf⟩ := m_bndE hf
  replace hR := frs_I hR (by decide) ev
  clear ev
  exact frs_t hR (fw_findMoves_7  mFuel _ _ _ _ hf) (fun _ h => h) (fun _ h => h)
theorem fw_findMoves {o : Int32 × MS}  {I : Nat → Int32} {A : Nat → Nat → Int32} (hf : f_findMoves  I A = some o) : FrS [33] [30, 31, 32] I A o.2.1 o.2.2 := fw_findMoves_0  hf
theorem fw_place_147s {o : Int32 × MS} {self147 : Int32 → Int32 → (Nat → Int32) → (Nat → Nat → Int32) → Option (Int32 × MS)} {x1 : Int32} {x4 : Int32} {I : Nat → Int32} {A : Nat → Nat → Int32} (hself147 : ∀ (z0 : Int32) (z1 : Int32) (I : Nat → Int32) (A : Nat → Nat → Int32) (o : Int32 × MS), self147 z0 z1 I A = some o → FrS [25, 26, 27, 28, 29, 33] [24, 30, 31, 32, 34] I A o.2.1 o.2.2) (hf : f_place_147s self147 x1 x4 I A = some o) : FrS [25, 26, 27, 28, 29, 33] [24, 30, 31, 32, 34] I A o.2.1 o.2.2 := by
  have hR : FrS [25, 26, 27, 28, 29, 33] [24, 30, 31, 32, 34] I A I A := frs_0
  unfold f_place_147s at hf
  rcases m_ifE hf with ⟨-, hf⟩ | ⟨-, hf⟩
  ·
    obtain ⟨or1, ho, hf⟩ := m_clE hf
    replace hR := frs_t hR (fw_findMoves ho) (by decide) (by decide)
    clear ho
    cases hf
    exact hR
  ·
    obtain ⟨v2, ev, hf⟩ := m_bndE hf
    clear ev
    obtain ⟨-, hf⟩ := m_chkE hf
    obtain ⟨v3, ev, hf⟩ := m_bndE hf
    clear ev
    obtain ⟨v4, ev, hf⟩ := m_bndE hf
    clear ev
    obtain ⟨-, hf⟩ := m_chkE hf
    obtain ⟨v5, ev, hf⟩ := m_bndE hf
    clear ev
    obtain ⟨or6, ho, hf⟩ := m_clE hf
    replace hR := frs_t hR (fw_make ho) (by decide) (by decide)
    clear ho
    obtain ⟨v7, ev, hf⟩ := m_bndE hf
    clear ev
    exact frs_t hR (hself147 _ _ _ _ _ hf) (fun _ h => h) (fun _ h => h)
theorem fw_place_147   (n : Nat) : ∀ (y0 : Int32) (y1 : Int32) (I : Nat → Int32) (A : Nat → Nat → Int32) (o : Int32 × MS), f_place_147  n y0 y1 I A = some o → FrS [25, 26, 27, 28, 29, 33] [24, 30, 31, 32, 34] I A o.2.1 o.2.2 := by
  induction n with
  | zero => intro y0 y1 I A o hf; cases hf
  | succ n ih => intro y0 y1 I A o hf; exact fw_place_147s  ih hf
theorem fw_place_42s {o : Int32 × MS} {self42 : Int32 → Int32 → Int32 → (Nat → Int32) → (Nat → Nat → Int32) → Option (Int32 × MS)} {x1 : Int32} {x3 : Int32} {x4 : Int32} {I : Nat → Int32} {A : Nat → Nat → Int32} (hself42 : ∀ (z0 : Int32) (z1 : Int32) (z2 : Int32) (I : Nat → Int32) (A : Nat → Nat → Int32) (o : Int32 × MS), self42 z0 z1 z2 I A = some o → FrS [25, 26, 27, 28, 29, 33] [24, 30, 31, 32, 34] I A o.2.1 o.2.2) (hf : f_place_42s self42 x1 x3 x4 I A = some o) : FrS [25, 26, 27, 28, 29, 33] [24, 30, 31, 32, 34] I A o.2.1 o.2.2 := by
  have hR : FrS [25, 26, 27, 28, 29, 33] [24, 30, 31, 32, 34] I A I A := frs_0
  unfold f_place_42s at hf
  rcases m_ifE hf with ⟨-, hf⟩ | ⟨-, hf⟩
  ·
    obtain ⟨v1, ev, hf⟩ := m_bndE hf
    clear ev
    obtain ⟨-, hf⟩ := m_chkE hf
    obtain ⟨v2, ev, hf⟩ := m_bndE hf
    clear ev
    obtain ⟨I3, ev, hf⟩ := m_bndE hf
    replace hR := frs_I hR (by decide) ev
    clear ev
    obtain ⟨v4, ev, hf⟩ := m_bndE hf
    clear ev
    obtain ⟨v5, ev, hf⟩ := m_bndE hf
    clear ev
    obtain ⟨-, hf⟩ := m_chkE hf
    obtain ⟨v6, ev, hf⟩ := m_bndE hf
    clear ev
    obtain ⟨I7, ev, hf⟩ := m_bndE hf
    replace hR := frs_I hR (by decide) ev
    clear ev
    obtain ⟨v8, ev, hf⟩ := m_bndE hf
    clear ev
    obtain ⟨v9, ev, hf⟩ := m_bndE hf
    clear ev
    obtain ⟨-, hf⟩ := m_chkE hf
    obtain ⟨v10, ev, hf⟩ := m_bndE hf
    clear ev
    obtain ⟨I11, ev, hf⟩ := m_bndE hf
    replace hR := frs_I hR (by decide) ev
    clear ev
    obtain ⟨v12, ev, hf⟩ := m_bndE hf
    clear ev
    obtain ⟨v13, ev, hf⟩ := m_bndE hf
    clear ev
    obtain ⟨-, hf⟩ := m_chkE hf
    obtain ⟨v14, ev, hf⟩ := m_bndE hf
    clear ev
    obtain ⟨I15, ev, hf⟩ := m_bndE hf
    replace hR := frs_I hR (by decide) ev
    clear ev
    obtain ⟨v16, ev, hf⟩ := m_bndE hf
    clear ev
    obtain ⟨v17, ev, hf⟩ := m_bndE hf
    clear ev
    obtain ⟨-, hf⟩ := m_chkE hf
    obtain ⟨v18, ev, hf⟩ := m_bndE hf
    clear ev
    obtain ⟨I19, ev, hf⟩ := m_bndE hf
    replace hR := frs_I hR (by decide) ev
    clear ev
    obtain ⟨v20, ev, hf⟩ := m_bndE hf
    clear ev
    exact frs_t hR (fw_place_147  mFuel _ _ _ _ _ hf) (fun _ h => h) (fun _ h => h)
  ·
    obtain ⟨v21, ev, hf⟩ := m_bndE hf
    clear ev
    obtain ⟨v22, ev, hf⟩ := m_bndE hf
    clear ev
    obtain ⟨-, hf⟩ := m_chkE hf
    obtain ⟨v23, ev, hf⟩ := m_bndE hf
    clear ev
    obtain ⟨-, hf⟩ := m_chkE hf
    obtain ⟨A24, ev, hf⟩ := m_bndE hf
    replace hR := frs_A hR (by decide) ev
    clear ev
    obtain ⟨v25, ev, hf⟩ := m_bndE hf
    clear ev
    exact frs_t hR (hself42 _ _ _ _ _ _ hf) (fun _ h => h) (fun _ h => h)
theorem fw_place_42   (n : Nat) : ∀ (y0 : Int32) (y1 : Int32) (y2 : Int32) (I : Nat → Int32) (A : Nat → Nat → Int32) (o : Int32 × MS), f_place_42  n y0 y1 y2 I A = some o → FrS [25, 26, 27, 28, 29, 33] [24, 30, 31, 32, 34] I A o.2.1 o.2.2 := by
  induction n with
  | zero => intro y0 y1 y2 I A o hf; cases hf
  | succ n ih => intro y0 y1 y2 I A o hf; exact fw_place_42s  ih hf
theorem fw_place_5s {o : Int32 × MS} {self5 : Int32 → Int32 → Int32 → (Nat → Int32) → (Nat → Nat → Int32) → Option (Int32 × MS)} {x1 : Int32} {x3 : Int32} {x4 : Int32} {I : Nat → Int32} {A : Nat → Nat → Int32} (hself5 : ∀ (z0 : Int32) (z1 : Int32) (z2 : Int32) (I : Nat → Int32) (A : Nat → Nat → Int32) (o : Int32 × MS), self5 z0 z1 z2 I A = some o → FrS [25, 26, 27, 28, 29, 33] [24, 30, 31, 32, 34] I A o.2.1 o.2.2) (hf : f_place_5s self5 x1 x3 x4 I A = some o) : FrS [25, 26, 27, 28, 29, 33] [24, 30, 31, 32, 34] I A o.2.1 o.2.2 := by
  have hR : FrS [25, 26, 27, 28, 29, 33] [24, 30, 31, 32, 34] I A I A := frs_0
  unfold f_place_5s at hf
  rcases m_ifE hf with ⟨-, hf⟩ | ⟨-, hf⟩
  ·
    exact frs_t hR (fw_place_42  mFuel _ _ _ _ _ _ hf) (fun _ h => h) (fun _ h => h)
  ·
    obtain ⟨-, hf⟩ := m_chkE hf
    obtain ⟨A1, ev, hf⟩ := m_bndE hf
    replace hR := frs_A hR (by decide) ev
    clear ev
    obtain ⟨v2, ev, hf⟩ := m_bndE hf
    clear ev
    obtain ⟨v3, ev, hf⟩ := m_bndE hf
    clear ev
    obtain ⟨v4, ev, hf⟩ := m_bndE hf
    clear ev
    obtain ⟨-, hf⟩ := m_chkE hf
    obtain ⟨v5, ev, hf⟩ := m_bndE hf
    clear ev
    exact frs_t hR (hself5 _ _ _ _ _ _ hf) (fun _ h => h) (fun _ h => h)
theorem fw_place_5   (n : Nat) : ∀ (y0 : Int32) (y1 : Int32) (y2 : Int32) (I : Nat → Int32) (A : Nat → Nat → Int32) (o : Int32 × MS), f_place_5  n y0 y1 y2 I A = some o → FrS [25, 26, 27, 28, 29, 33] [24, 30, 31, 32, 34] I A o.2.1 o.2.2 := by
  induction n with
  | zero => intro y0 y1 y2 I A o hf; cases hf
  | succ n ih => intro y0 y1 y2 I A o hf; exact fw_place_5s  ih hf
theorem fw_place_0 {o : Int32 × MS} {x1 : Int32} {x2 : Int32} {I : Nat → Int32} {A : Nat → Nat → Int32}  (hf : f_place_0 x1 x2 I A = some o) : FrS [25, 26, 27, 28, 29, 33] [24, 30, 31, 32, 34] I A o.2.1 o.2.2 := by
  have hR : FrS [25, 26, 27, 28, 29, 33] [24, 30, 31, 32, 34] I A I A := frs_0
  unfold f_place_0 at hf
  exact frs_t hR (fw_place_5  mFuel _ _ _ _ _ _ hf) (fun _ h => h) (fun _ h => h)
theorem fw_place {o : Int32 × MS} {x1 : Int32} {x2 : Int32} {I : Nat → Int32} {A : Nat → Nat → Int32} (hf : f_place x1 x2 I A = some o) : FrS [25, 26, 27, 28, 29, 33] [24, 30, 31, 32, 34] I A o.2.1 o.2.2 := fw_place_0  hf
theorem fw_thrown_0 {o : Int32 × MS} {I : Nat → Int32} {A : Nat → Nat → Int32}  (hf : f_thrown_0 I A = some o) : FrS [] [] I A o.2.1 o.2.2 := by
  have hR : FrS [] [] I A I A := frs_0
  unfold f_thrown_0 at hf
  cases hf
  exact hR
theorem fw_thrown {o : Int32 × MS}  {I : Nat → Int32} {A : Nat → Nat → Int32} (hf : f_thrown  I A = some o) : FrS [] [] I A o.2.1 o.2.2 := fw_thrown_0  hf
theorem fw_childWith_54 {o : Int32 × MS} {x4 : Int32} {I : Nat → Int32} {A : Nat → Nat → Int32}  (hf : f_childWith_54 x4 I A = some o) : FrS [] [] I A o.2.1 o.2.2 := by
  have hR : FrS [] [] I A I A := frs_0
  unfold f_childWith_54 at hf
  cases hf
  exact hR
theorem fw_childWith_14s {o : Int32 × MS} {self14 : Int32 → Int32 → Int32 → (Nat → Int32) → (Nat → Nat → Int32) → Option (Int32 × MS)} {x1 : Int32} {x3 : Int32} {x4 : Int32} {I : Nat → Int32} {A : Nat → Nat → Int32} (hself14 : ∀ (z0 : Int32) (z1 : Int32) (z2 : Int32) (I : Nat → Int32) (A : Nat → Nat → Int32) (o : Int32 × MS), self14 z0 z1 z2 I A = some o → FrS [] [] I A o.2.1 o.2.2) (hf : f_childWith_14s self14 x1 x3 x4 I A = some o) : FrS [] [] I A o.2.1 o.2.2 := by
  have hR : FrS [] [] I A I A := frs_0
  unfold f_childWith_14s at hf
  rcases m_ifE hf with ⟨-, hf⟩ | ⟨-, hf⟩
  ·
    exact frs_t hR (fw_childWith_54  hf) (fun _ h => h) (fun _ h => h)
  ·
    obtain ⟨v1, ev, hf⟩ := m_bndE hf
    clear ev
    obtain ⟨v2, ev, hf⟩ := m_bndE hf
    clear ev
    obtain ⟨-, hf⟩ := m_chkE hf
    obtain ⟨v3, ev, hf⟩ := m_bndE hf
    clear ev
    rcases m_ifE hf with ⟨-, hf⟩ | ⟨-, hf⟩
    ·
      exact frs_t hR (fw_childWith_54  hf) (fun _ h => h) (fun _ h => h)
    ·
      obtain ⟨v4, ev, hf⟩ := m_bndE hf
      clear ev
      obtain ⟨v5, ev, hf⟩ := m_bndE hf
      clear ev
      obtain ⟨-, hf⟩ := m_chkE hf
      obtain ⟨v6, ev, hf⟩ := m_bndE hf
      clear ev
      exact frs_t hR (hself14 _ _ _ _ _ _ hf) (fun _ h => h) (fun _ h => h)
theorem fw_childWith_14   (n : Nat) : ∀ (y0 : Int32) (y1 : Int32) (y2 : Int32) (I : Nat → Int32) (A : Nat → Nat → Int32) (o : Int32 × MS), f_childWith_14  n y0 y1 y2 I A = some o → FrS [] [] I A o.2.1 o.2.2 := by
  induction n with
  | zero => intro y0 y1 y2 I A o hf; cases hf
  | succ n ih => intro y0 y1 y2 I A o hf; exact fw_childWith_14s  ih hf
theorem fw_childWith_0 {o : Int32 × MS} {x1 : Int32} {x2 : Int32} {x3 : Int32} {I : Nat → Int32} {A : Nat → Nat → Int32}  (hf : f_childWith_0 x1 x2 x3 I A = some o) : FrS [] [] I A o.2.1 o.2.2 := by
  have hR : FrS [] [] I A I A := frs_0
  unfold f_childWith_0 at hf
  obtain ⟨v1, ev, hf⟩ := m_bndE hf
  clear ev
  obtain ⟨v2, ev, hf⟩ := m_bndE hf
  clear ev
  obtain ⟨-, hf⟩ := m_chkE hf
  obtain ⟨v3, ev, hf⟩ := m_bndE hf
  clear ev
  exact frs_t hR (fw_childWith_14  mFuel _ _ _ _ _ _ hf) (fun _ h => h) (fun _ h => h)
theorem fw_childWith {o : Int32 × MS} {x1 : Int32} {x2 : Int32} {x3 : Int32} {I : Nat → Int32} {A : Nat → Nat → Int32} (hf : f_childWith x1 x2 x3 I A = some o) : FrS [] [] I A o.2.1 o.2.2 := fw_childWith_0  hf
theorem fw_append_143 {o : Int32 × MS} {x4 : Int32} {I : Nat → Int32} {A : Nat → Nat → Int32}  (hf : f_append_143 x4 I A = some o) : FrS [] [7, 8, 9, 10, 11, 12, 14] I A o.2.1 o.2.2 := by
  have hR : FrS [] [7, 8, 9, 10, 11, 12, 14] I A I A := frs_0
  unfold f_append_143 at hf
  cases hf
  exact hR
theorem fw_append_94s {o : Int32 × MS} {self94 : Int32 → Int32 → Int32 → (Nat → Int32) → (Nat → Nat → Int32) → Option (Int32 × MS)} {x1 : Int32} {x4 : Int32} {x5 : Int32} {I : Nat → Int32} {A : Nat → Nat → Int32} (hself94 : ∀ (z0 : Int32) (z1 : Int32) (z2 : Int32) (I : Nat → Int32) (A : Nat → Nat → Int32) (o : Int32 × MS), self94 z0 z1 z2 I A = some o → FrS [] [7, 8, 9, 10, 11, 12, 14] I A o.2.1 o.2.2) (hf : f_append_94s self94 x1 x4 x5 I A = some o) : FrS [] [7, 8, 9, 10, 11, 12, 14] I A o.2.1 o.2.2 := by
  have hR : FrS [] [7, 8, 9, 10, 11, 12, 14] I A I A := frs_0
  unfold f_append_94s at hf
  obtain ⟨v1, ev, hf⟩ := m_bndE hf
  clear ev
  obtain ⟨v2, ev, hf⟩ := m_bndE hf
  clear ev
  obtain ⟨-, hf⟩ := m_chkE hf
  obtain ⟨v3, ev, hf⟩ := m_bndE hf
  clear ev
  rcases m_ifE hf with ⟨-, hf⟩ | ⟨-, hf⟩
  ·
    obtain ⟨v4, ev, hf⟩ := m_bndE hf
    clear ev
    obtain ⟨v5, ev, hf⟩ := m_bndE hf
    clear ev
    obtain ⟨-, hf⟩ := m_chkE hf
    obtain ⟨A6, ev, hf⟩ := m_bndE hf
    replace hR := frs_A hR (by decide) ev
    clear ev
    exact frs_t hR (fw_append_143  hf) (fun _ h => h) (fun _ h => h)
  ·
    obtain ⟨v7, ev, hf⟩ := m_bndE hf
    clear ev
    obtain ⟨v8, ev, hf⟩ := m_bndE hf
    clear ev
    obtain ⟨-, hf⟩ := m_chkE hf
    obtain ⟨v9, ev, hf⟩ := m_bndE hf
    clear ev
    exact frs_t hR (hself94 _ _ _ _ _ _ hf) (fun _ h => h) (fun _ h => h)
theorem fw_append_94   (n : Nat) : ∀ (y0 : Int32) (y1 : Int32) (y2 : Int32) (I : Nat → Int32) (A : Nat → Nat → Int32) (o : Int32 × MS), f_append_94  n y0 y1 y2 I A = some o → FrS [] [7, 8, 9, 10, 11, 12, 14] I A o.2.1 o.2.2 := by
  induction n with
  | zero => intro y0 y1 y2 I A o hf; cases hf
  | succ n ih => intro y0 y1 y2 I A o hf; exact fw_append_94s  ih hf
theorem fw_append_0 {o : Int32 × MS} {x1 : Int32} {x2 : Int32} {x3 : Int32} {I : Nat → Int32} {A : Nat → Nat → Int32}  (hf : f_append_0 x1 x2 x3 I A = some o) : FrS [] [7, 8, 9, 10, 11, 12, 14] I A o.2.1 o.2.2 := by
  have hR : FrS [] [7, 8, 9, 10, 11, 12, 14] I A I A := frs_0
  unfold f_append_0 at hf
  obtain ⟨-, hf⟩ := m_chkE hf
  obtain ⟨v1, ev, hf⟩ := m_bndE hf
  clear ev
  obtain ⟨v2, ev, hf⟩ := m_bndE hf
  clear ev
  obtain ⟨-, hf⟩ := m_chkE hf
  obtain ⟨A3, ev, hf⟩ := m_bndE hf
  replace hR := frs_A hR (by decide) ev
  clear ev
  obtain ⟨-, hf⟩ := m_chkE hf
  obtain ⟨v4, ev, hf⟩ := m_bndE hf
  clear ev
  obtain ⟨v5, ev, hf⟩ := m_bndE hf
  clear ev
  obtain ⟨v6, ev, hf⟩ := m_bndE hf
  clear ev
  obtain ⟨or7, ho, hf⟩ := m_clE hf
  replace hR := frs_t hR (fw_clearNode ho) (by decide) (by decide)
  clear ho
  obtain ⟨v8, ev, hf⟩ := m_bndE hf
  clear ev
  obtain ⟨v9, ev, hf⟩ := m_bndE hf
  clear ev
  obtain ⟨-, hf⟩ := m_chkE hf
  obtain ⟨A10, ev, hf⟩ := m_bndE hf
  replace hR := frs_A hR (by decide) ev
  clear ev
  obtain ⟨v11, ev, hf⟩ := m_bndE hf
  clear ev
  obtain ⟨v12, ev, hf⟩ := m_bndE hf
  clear ev
  obtain ⟨-, hf⟩ := m_chkE hf
  obtain ⟨A13, ev, hf⟩ := m_bndE hf
  replace hR := frs_A hR (by decide) ev
  clear ev
  obtain ⟨v14, ev, hf⟩ := m_bndE hf
  clear ev
  obtain ⟨v15, ev, hf⟩ := m_bndE hf
  clear ev
  obtain ⟨-, hf⟩ := m_chkE hf
  obtain ⟨v16, ev, hf⟩ := m_bndE hf
  clear ev
  rcases m_ifE hf with ⟨-, hf⟩ | ⟨-, hf⟩
  ·
    exact frs_t hR (fw_append_94  mFuel _ _ _ _ _ _ hf) (fun _ h => h) (fun _ h => h)
  ·
    obtain ⟨v17, ev, hf⟩ := m_bndE hf
    clear ev
    obtain ⟨v18, ev, hf⟩ := m_bndE hf
    clear ev
    obtain ⟨-, hf⟩ := m_chkE hf
    obtain ⟨A19, ev, hf⟩ := m_bndE hf
    replace hR := frs_A hR (by decide) ev
    clear ev
    exact frs_t hR (fw_append_143  hf) (fun _ h => h) (fun _ h => h)
theorem fw_append {o : Int32 × MS} {x1 : Int32} {x2 : Int32} {x3 : Int32} {I : Nat → Int32} {A : Nat → Nat → Int32} (hf : f_append x1 x2 x3 I A = some o) : FrS [] [7, 8, 9, 10, 11, 12, 14] I A o.2.1 o.2.2 := fw_append_0  hf
theorem fw_isFirst_32 {o : Int32 × MS} {t0 : Int32} {I : Nat → Int32} {A : Nat → Nat → Int32}  (hf : f_isFirst_32 t0 I A = some o) : FrS [] [] I A o.2.1 o.2.2 := by
  have hR : FrS [] [] I A I A := frs_0
  unfold f_isFirst_32 at hf
  obtain ⟨-, hf⟩ := m_chkE hf
  cases hf
  exact hR
theorem fw_isFirst_0 {o : Int32 × MS} {x1 : Int32} {x2 : Int32} {I : Nat → Int32} {A : Nat → Nat → Int32}  (hf : f_isFirst_0 x1 x2 I A = some o) : FrS [] [] I A o.2.1 o.2.2 := by
  have hR : FrS [] [] I A I A := frs_0
  unfold f_isFirst_0 at hf
  obtain ⟨v1, ev, hf⟩ := m_bndE hf
  clear ev
  obtain ⟨v2, ev, hf⟩ := m_bndE hf
  clear ev
  obtain ⟨v3, ev, hf⟩ := m_bndE hf
  clear ev
  obtain ⟨-, hf⟩ := m_chkE hf
  obtain ⟨v4, ev, hf⟩ := m_bndE hf
  clear ev
  obtain ⟨v5, ev, hf⟩ := m_bndE hf
  clear ev
  obtain ⟨-, hf⟩ := m_chkE hf
  obtain ⟨v6, ev, hf⟩ := m_bndE hf
  clear ev
  rcases m_ifE hf with ⟨-, hf⟩ | ⟨-, hf⟩
  ·
    exact frs_t hR (fw_isFirst_32  hf) (fun _ h => h) (fun _ h => h)
  ·
    exact frs_t hR (fw_isFirst_32  hf) (fun _ h => h) (fun _ h => h)
theorem fw_isFirst {o : Int32 × MS} {x1 : Int32} {x2 : Int32} {I : Nat → Int32} {A : Nat → Nat → Int32} (hf : f_isFirst x1 x2 I A = some o) : FrS [] [] I A o.2.1 o.2.2 := fw_isFirst_0  hf
theorem fw_deepOf_27 {o : Int32 × MS} {self5 : Int32 → Int32 → Int32 → (Nat → Int32) → (Nat → Nat → Int32) → Option (Int32 × MS)} {x1 : Int32} {x4 : Int32} {t0 : Int32} {I : Nat → Int32} {A : Nat → Nat → Int32} (hself5 : ∀ (z0 : Int32) (z1 : Int32) (z2 : Int32) (I : Nat → Int32) (A : Nat → Nat → Int32) (o : Int32 × MS), self5 z0 z1 z2 I A = some o → FrS [] [] I A o.2.1 o.2.2) (hf : f_deepOf_27 self5 x1 x4 t0 I A = some o) : FrS [] [] I A o.2.1 o.2.2 := by
  have hR : FrS [] [] I A I A := frs_0
  unfold f_deepOf_27 at hf
  obtain ⟨v1, ev, hf⟩ := m_bndE hf
  clear ev
  obtain ⟨v2, ev, hf⟩ := m_bndE hf
  clear ev
  obtain ⟨-, hf⟩ := m_chkE hf
  obtain ⟨v3, ev, hf⟩ := m_bndE hf
  clear ev
  exact frs_t hR (hself5 _ _ _ _ _ _ hf) (fun _ h => h) (fun _ h => h)
theorem fw_deepOf_5s {o : Int32 × MS} {self5 : Int32 → Int32 → Int32 → (Nat → Int32) → (Nat → Nat → Int32) → Option (Int32 × MS)} {x1 : Int32} {x3 : Int32} {x4 : Int32} {I : Nat → Int32} {A : Nat → Nat → Int32} (hself5 : ∀ (z0 : Int32) (z1 : Int32) (z2 : Int32) (I : Nat → Int32) (A : Nat → Nat → Int32) (o : Int32 × MS), self5 z0 z1 z2 I A = some o → FrS [] [] I A o.2.1 o.2.2) (hf : f_deepOf_5s self5 x1 x3 x4 I A = some o) : FrS [] [] I A o.2.1 o.2.2 := by
  have hR : FrS [] [] I A I A := frs_0
  unfold f_deepOf_5s at hf
  rcases m_ifE hf with ⟨-, hf⟩ | ⟨-, hf⟩
  ·
    cases hf
    exact hR
  ·
    obtain ⟨or1, ho, hf⟩ := m_clE hf
    replace hR := frs_t hR (fw_isFirst ho) (by decide) (by decide)
    clear ho
    rcases m_ifE hf with ⟨-, hf⟩ | ⟨-, hf⟩
    ·
      obtain ⟨v2, ev, hf⟩ := m_bndE hf
      clear ev
      exact frs_t hR (fw_deepOf_27 hself5 hf) (fun _ h => h) (fun _ h => h)
    ·
      exact frs_t hR (fw_deepOf_27 hself5 hf) (fun _ h => h) (fun _ h => h)
theorem fw_deepOf_5   (n : Nat) : ∀ (y0 : Int32) (y1 : Int32) (y2 : Int32) (I : Nat → Int32) (A : Nat → Nat → Int32) (o : Int32 × MS), f_deepOf_5  n y0 y1 y2 I A = some o → FrS [] [] I A o.2.1 o.2.2 := by
  induction n with
  | zero => intro y0 y1 y2 I A o hf; cases hf
  | succ n ih => intro y0 y1 y2 I A o hf; exact fw_deepOf_5s  ih hf
theorem fw_deepOf_0 {o : Int32 × MS} {x1 : Int32} {x2 : Int32} {I : Nat → Int32} {A : Nat → Nat → Int32}  (hf : f_deepOf_0 x1 x2 I A = some o) : FrS [] [] I A o.2.1 o.2.2 := by
  have hR : FrS [] [] I A I A := frs_0
  unfold f_deepOf_0 at hf
  exact frs_t hR (fw_deepOf_5  mFuel _ _ _ _ _ _ hf) (fun _ h => h) (fun _ h => h)
theorem fw_deepOf {o : Int32 × MS} {x1 : Int32} {x2 : Int32} {I : Nat → Int32} {A : Nat → Nat → Int32} (hf : f_deepOf x1 x2 I A = some o) : FrS [] [] I A o.2.1 o.2.2 := fw_deepOf_0  hf
theorem fw_spell_0 {o : Int32 × MS} {x1 : Int32} {I : Nat → Int32} {A : Nat → Nat → Int32}  (hf : f_spell_0 x1 I A = some o) : FrS [36] [35] I A o.2.1 o.2.2 := by
  have hR : FrS [36] [35] I A I A := frs_0
  unfold f_spell_0 at hf
  obtain ⟨-, hf⟩ := m_chkE hf
  obtain ⟨A1, ev, hf⟩ := m_bndE hf
  replace hR := frs_A hR (by decide) ev
  clear ev
  obtain ⟨v2, ev, hf⟩ := m_bndE hf
  clear ev
  obtain ⟨I3, ev, hf⟩ := m_bndE hf
  replace hR := frs_I hR (by decide) ev
  clear ev
  cases hf
  exact hR
theorem fw_spell {o : Int32 × MS} {x1 : Int32} {I : Nat → Int32} {A : Nat → Nat → Int32} (hf : f_spell x1 I A = some o) : FrS [36] [35] I A o.2.1 o.2.2 := fw_spell_0  hf
theorem fw_spellSquare_0 {o : Int32 × MS} {x1 : Int32} {I : Nat → Int32} {A : Nat → Nat → Int32}  (hf : f_spellSquare_0 x1 I A = some o) : FrS [36] [35] I A o.2.1 o.2.2 := by
  have hR : FrS [36] [35] I A I A := frs_0
  unfold f_spellSquare_0 at hf
  obtain ⟨v1, ev, hf⟩ := m_bndE hf
  clear ev
  obtain ⟨v2, ev, hf⟩ := m_bndE hf
  clear ev
  obtain ⟨v3, ev, hf⟩ := m_bndE hf
  clear ev
  obtain ⟨or4, ho, hf⟩ := m_clE hf
  replace hR := frs_t hR (fw_spell ho) (by decide) (by decide)
  clear ho
  obtain ⟨v5, ev, hf⟩ := m_bndE hf
  clear ev
  obtain ⟨v6, ev, hf⟩ := m_bndE hf
  clear ev
  obtain ⟨v7, ev, hf⟩ := m_bndE hf
  clear ev
  obtain ⟨or8, ho, hf⟩ := m_clE hf
  replace hR := frs_t hR (fw_spell ho) (by decide) (by decide)
  clear ho
  cases hf
  exact hR
theorem fw_spellSquare {o : Int32 × MS} {x1 : Int32} {I : Nat → Int32} {A : Nat → Nat → Int32} (hf : f_spellSquare x1 I A = some o) : FrS [36] [35] I A o.2.1 o.2.2 := fw_spellSquare_0  hf
theorem fw_letter_42 {o : Int32 × MS} {t0 : Int32} {I : Nat → Int32} {A : Nat → Nat → Int32}  (hf : f_letter_42 t0 I A = some o) : FrS [] [] I A o.2.1 o.2.2 := by
  have hR : FrS [] [] I A I A := frs_0
  unfold f_letter_42 at hf
  obtain ⟨-, hf⟩ := m_chkE hf
  cases hf
  exact hR
theorem fw_letter_0 {o : Int32 × MS} {x0 : Int32} {I : Nat → Int32} {A : Nat → Nat → Int32}  (hf : f_letter_0 x0 I A = some o) : FrS [] [] I A o.2.1 o.2.2 := by
  have hR : FrS [] [] I A I A := frs_0
  unfold f_letter_0 at hf
  rcases m_ifE hf with ⟨-, hf⟩ | ⟨-, hf⟩
  ·
    exact frs_t hR (fw_letter_42  hf) (fun _ h => h) (fun _ h => h)
  ·
    rcases m_ifE hf with ⟨-, hf⟩ | ⟨-, hf⟩
    ·
      exact frs_t hR (fw_letter_42  hf) (fun _ h => h) (fun _ h => h)
    ·
      rcases m_ifE hf with ⟨-, hf⟩ | ⟨-, hf⟩
      ·
        exact frs_t hR (fw_letter_42  hf) (fun _ h => h) (fun _ h => h)
      ·
        rcases m_ifE hf with ⟨-, hf⟩ | ⟨-, hf⟩
        ·
          exact frs_t hR (fw_letter_42  hf) (fun _ h => h) (fun _ h => h)
        ·
          exact frs_t hR (fw_letter_42  hf) (fun _ h => h) (fun _ h => h)
theorem fw_letter {o : Int32 × MS} {x0 : Int32} {I : Nat → Int32} {A : Nat → Nat → Int32} (hf : f_letter x0 I A = some o) : FrS [] [] I A o.2.1 o.2.2 := fw_letter_0  hf
theorem fw_isCastling_46 {o : Int32 × MS} {t0 : Int32} {I : Nat → Int32} {A : Nat → Nat → Int32}  (hf : f_isCastling_46 t0 I A = some o) : FrS [] [] I A o.2.1 o.2.2 := by
  have hR : FrS [] [] I A I A := frs_0
  unfold f_isCastling_46 at hf
  obtain ⟨-, hf⟩ := m_chkE hf
  cases hf
  exact hR
theorem fw_isCastling_45 {o : Int32 × MS} {I : Nat → Int32} {A : Nat → Nat → Int32}  (hf : f_isCastling_45 I A = some o) : FrS [] [] I A o.2.1 o.2.2 := by
  have hR : FrS [] [] I A I A := frs_0
  unfold f_isCastling_45 at hf
  exact frs_t hR (fw_isCastling_46  hf) (fun _ h => h) (fun _ h => h)
theorem fw_isCastling_41 {o : Int32 × MS} {I : Nat → Int32} {A : Nat → Nat → Int32}  (hf : f_isCastling_41 I A = some o) : FrS [] [] I A o.2.1 o.2.2 := by
  have hR : FrS [] [] I A I A := frs_0
  unfold f_isCastling_41 at hf
  exact frs_t hR (fw_isCastling_46  hf) (fun _ h => h) (fun _ h => h)
theorem fw_isCastling_0 {o : Int32 × MS} {x1 : Int32} {I : Nat → Int32} {A : Nat → Nat → Int32}  (hf : f_isCastling_0 x1 I A = some o) : FrS [] [] I A o.2.1 o.2.2 := by
  have hR : FrS [] [] I A I A := frs_0
  unfold f_isCastling_0 at hf
  obtain ⟨v1, ev, hf⟩ := m_bndE hf
  clear ev
  obtain ⟨v2, ev, hf⟩ := m_bndE hf
  clear ev
  obtain ⟨v3, ev, hf⟩ := m_bndE hf
  clear ev
  obtain ⟨-, hf⟩ := m_chkE hf
  obtain ⟨v4, ev, hf⟩ := m_bndE hf
  clear ev
  obtain ⟨or5, ho, hf⟩ := m_clE hf
  replace hR := frs_t hR (fw_kind ho) (by decide) (by decide)
  clear ho
  rcases m_ifE hf with ⟨-, hf⟩ | ⟨-, hf⟩
  ·
    obtain ⟨v6, ev, hf⟩ := m_bndE hf
    clear ev
    rcases m_ifE hf with ⟨-, hf⟩ | ⟨-, hf⟩
    ·
      exact frs_t hR (fw_isCastling_41  hf) (fun _ h => h) (fun _ h => h)
    ·
      obtain ⟨v7, ev, hf⟩ := m_bndE hf
      clear ev
      rcases m_ifE hf with ⟨-, hf⟩ | ⟨-, hf⟩
      ·
        exact frs_t hR (fw_isCastling_41  hf) (fun _ h => h) (fun _ h => h)
      ·
        exact frs_t hR (fw_isCastling_45  hf) (fun _ h => h) (fun _ h => h)
  ·
    exact frs_t hR (fw_isCastling_45  hf) (fun _ h => h) (fun _ h => h)
theorem fw_isCastling {o : Int32 × MS} {x1 : Int32} {I : Nat → Int32} {A : Nat → Nat → Int32} (hf : f_isCastling x1 I A = some o) : FrS [] [] I A o.2.1 o.2.2 := fw_isCastling_0  hf
theorem fw_spellMove_184 {o : Int32 × MS} {I : Nat → Int32} {A : Nat → Nat → Int32}  (hf : f_spellMove_184 I A = some o) : FrS [36] [35] I A o.2.1 o.2.2 := by
  have hR : FrS [36] [35] I A I A := frs_0
  unfold f_spellMove_184 at hf
  cases hf
  exact hR
theorem fw_spellMove_158 {o : Int32 × MS} {x5 : Int32} {x6 : Int32} {I : Nat → Int32} {A : Nat → Nat → Int32}  (hf : f_spellMove_158 x5 x6 I A = some o) : FrS [36] [35] I A o.2.1 o.2.2 := by
  have hR : FrS [36] [35] I A I A := frs_0
  unfold f_spellMove_158 at hf
  obtain ⟨or1, ho, hf⟩ := m_clE hf
  replace hR := frs_t hR (fw_spellSquare ho) (by decide) (by decide)
  clear ho
  rcases m_ifE hf with ⟨-, hf⟩ | ⟨-, hf⟩
  ·
    exact frs_t hR (fw_spellMove_184  hf) (fun _ h => h) (fun _ h => h)
  ·
    obtain ⟨or2, ho, hf⟩ := m_clE hf
    replace hR := frs_t hR (fw_spell ho) (by decide) (by decide)
    clear ho
    obtain ⟨or3, ho, hf⟩ := m_clE hf
    replace hR := frs_t hR (fw_letter ho) (by decide) (by decide)
    clear ho
    obtain ⟨or4, ho, hf⟩ := m_clE hf
    replace hR := frs_t hR (fw_spell ho) (by decide) (by decide)
    clear ho
    exact frs_t hR (fw_spellMove_184  hf) (fun _ h => h) (fun _ h => h)
theorem fw_spellMove_148 {o : Int32 × MS} {x3 : Int32} {x5 : Int32} {x6 : Int32} {I : Nat → Int32} {A : Nat → Nat → Int32}  (hf : f_spellMove_148 x3 x5 x6 I A = some o) : FrS [36] [35] I A o.2.1 o.2.2 := by
  have hR : FrS [36] [35] I A I A := frs_0
  unfold f_spellMove_148 at hf
  rcases m_ifE hf with ⟨-, hf⟩ | ⟨-, hf⟩
  ·
    exact frs_t hR (fw_spellMove_158  hf) (fun _ h => h) (fun _ h => h)
  ·
    obtain ⟨or1, ho, hf⟩ := m_clE hf
    replace hR := frs_t hR (fw_spell ho) (by decide) (by decide)
    clear ho
    exact frs_t hR (fw_spellMove_158  hf) (fun _ h => h) (fun _ h => h)
theorem fw_spellMove_130 {o : Int32 × MS} {x2 : Int32} {x3 : Int32} {x4 : Int32} {x5 : Int32} {x6 : Int32} {I : Nat → Int32} {A : Nat → Nat → Int32}  (hf : f_spellMove_130 x2 x3 x4 x5 x6 I A = some o) : FrS [36] [35] I A o.2.1 o.2.2 := by
  have hR : FrS [36] [35] I A I A := frs_0
  unfold f_spellMove_130 at hf
  rcases m_ifE hf with ⟨-, hf⟩ | ⟨-, hf⟩
  ·
    exact frs_t hR (fw_spellMove_148  hf) (fun _ h => h) (fun _ h => h)
  ·
    obtain ⟨v1, ev, hf⟩ := m_bndE hf
    clear ev
    obtain ⟨v2, ev, hf⟩ := m_bndE hf
    clear ev
    obtain ⟨v3, ev, hf⟩ := m_bndE hf
    clear ev
    obtain ⟨or4, ho, hf⟩ := m_clE hf
    replace hR := frs_t hR (fw_spell ho) (by decide) (by decide)
    clear ho
    exact frs_t hR (fw_spellMove_148  hf) (fun _ h => h) (fun _ h => h)
theorem fw_spellMove_110 {o : Int32 × MS} {x2 : Int32} {x3 : Int32} {x4 : Int32} {x5 : Int32} {x6 : Int32} {I : Nat → Int32} {A : Nat → Nat → Int32}  (hf : f_spellMove_110 x2 x3 x4 x5 x6 I A = some o) : FrS [36] [35] I A o.2.1 o.2.2 := by
  have hR : FrS [36] [35] I A I A := frs_0
  unfold f_spellMove_110 at hf
  obtain ⟨v1, ev, hf⟩ := m_bndE hf
  clear ev
  rcases m_ifE hf with ⟨-, hf⟩ | ⟨-, hf⟩
  ·
    obtain ⟨v2, ev, hf⟩ := m_bndE hf
    clear ev
    obtain ⟨v3, ev, hf⟩ := m_bndE hf
    clear ev
    obtain ⟨v4, ev, hf⟩ := m_bndE hf
    clear ev
    obtain ⟨or5, ho, hf⟩ := m_clE hf
    replace hR := frs_t hR (fw_spell ho) (by decide) (by decide)
    clear ho
    exact frs_t hR (fw_spellMove_130  hf) (fun _ h => h) (fun _ h => h)
  ·
    exact frs_t hR (fw_spellMove_130  hf) (fun _ h => h) (fun _ h => h)
theorem fw_spellMove_66 {o : Int32 × MS} {self38 : Int32 → Int32 → Int32 → (Nat → Int32) → (Nat → Nat → Int32) → Option (Int32 × MS)} {x4 : Int32} {x5 : Int32} {x7 : Int32} {I : Nat → Int32} {A : Nat → Nat → Int32} (hself38 : ∀ (z0 : Int32) (z1 : Int32) (z2 : Int32) (I : Nat → Int32) (A : Nat → Nat → Int32) (o : Int32 × MS), self38 z0 z1 z2 I A = some o → FrS [36] [35] I A o.2.1 o.2.2) (hf : f_spellMove_66 self38 x4 x5 x7 I A = some o) : FrS [36] [35] I A o.2.1 o.2.2 := by
  have hR : FrS [36] [35] I A I A := frs_0
  unfold f_spellMove_66 at hf
  obtain ⟨or1, ho, hf⟩ := m_clE hf
  replace hR := frs_t hR (fw_spell ho) (by decide) (by decide)
  clear ho
  obtain ⟨v2, ev, hf⟩ := m_bndE hf
  clear ev
  exact frs_t hR (hself38 _ _ _ _ _ _ hf) (fun _ h => h) (fun _ h => h)
theorem fw_spellMove_52 {o : Int32 × MS} {self38 : Int32 → Int32 → Int32 → (Nat → Int32) → (Nat → Nat → Int32) → Option (Int32 × MS)} {x4 : Int32} {x5 : Int32} {x7 : Int32} {t0 : Int32} {t1 : Int32} {I : Nat → Int32} {A : Nat → Nat → Int32} (hself38 : ∀ (z0 : Int32) (z1 : Int32) (z2 : Int32) (I : Nat → Int32) (A : Nat → Nat → Int32) (o : Int32 × MS), self38 z0 z1 z2 I A = some o → FrS [36] [35] I A o.2.1 o.2.2) (hf : f_spellMove_52 self38 x4 x5 x7 t0 t1 I A = some o) : FrS [36] [35] I A o.2.1 o.2.2 := by
  have hR : FrS [36] [35] I A I A := frs_0
  unfold f_spellMove_52 at hf
  rcases m_ifE hf with ⟨-, hf⟩ | ⟨-, hf⟩
  ·
    cases hf
    exact hR
  ·
    rcases m_ifE hf with ⟨-, hf⟩ | ⟨-, hf⟩
    ·
      exact frs_t hR (fw_spellMove_66 hself38 hf) (fun _ h => h) (fun _ h => h)
    ·
      obtain ⟨or1, ho, hf⟩ := m_clE hf
      replace hR := frs_t hR (fw_spell ho) (by decide) (by decide)
      clear ho
      exact frs_t hR (fw_spellMove_66 hself38 hf) (fun _ h => h) (fun _ h => h)
theorem fw_spellMove_38s {o : Int32 × MS} {self38 : Int32 → Int32 → Int32 → (Nat → Int32) → (Nat → Nat → Int32) → Option (Int32 × MS)} {x4 : Int32} {x5 : Int32} {x7 : Int32} {I : Nat → Int32} {A : Nat → Nat → Int32} (hself38 : ∀ (z0 : Int32) (z1 : Int32) (z2 : Int32) (I : Nat → Int32) (A : Nat → Nat → Int32) (o : Int32 × MS), self38 z0 z1 z2 I A = some o → FrS [36] [35] I A o.2.1 o.2.2) (hf : f_spellMove_38s self38 x4 x5 x7 I A = some o) : FrS [36] [35] I A o.2.1 o.2.2 := by
  have hR : FrS [36] [35] I A I A := frs_0
  unfold f_spellMove_38s at hf
  rcases m_ifE hf with ⟨-, hf⟩ | ⟨-, hf⟩
  ·
    exact frs_t hR (fw_spellMove_52 hself38 hf) (fun _ h => h) (fun _ h => h)
  ·
    exact frs_t hR (fw_spellMove_52 hself38 hf) (fun _ h => h) (fun _ h => h)
theorem fw_spellMove_38   (n : Nat) : ∀ (y0 : Int32) (y1 : Int32) (y2 : Int32) (I : Nat → Int32) (A : Nat → Nat → Int32) (o : Int32 × MS), f_spellMove_38  n y0 y1 y2 I A = some o → FrS [36] [35] I A o.2.1 o.2.2 := by
  induction n with
  | zero => intro y0 y1 y2 I A o hf; cases hf
  | succ n ih => intro y0 y1 y2 I A o hf; exact fw_spellMove_38s  ih hf
theorem fw_spellMove_0 {o : Int32 × MS} {x1 : Int32} {x2 : Int32} {x3 : Int32} {I : Nat → Int32} {A : Nat → Nat → Int32}  (hf : f_spellMove_0 x1 x2 x3 I A = some o) : FrS [36] [35] I A o.2.1 o.2.2 := by
  have hR : FrS [36] [35] I A I A := frs_0
  unfold f_spellMove_0 at hf
  obtain ⟨v1, ev, hf⟩ := m_bndE hf
  clear ev
  obtain ⟨v2, ev, hf⟩ := m_bndE hf
  clear ev
  obtain ⟨v3, ev, hf⟩ := m_bndE hf
  clear ev
  obtain ⟨v4, ev, hf⟩ := m_bndE hf
  clear ev
  obtain ⟨I5, ev, hf⟩ := m_bndE hf
  replace hR := frs_I hR (by decide) ev
  clear ev
  obtain ⟨or6, ho, hf⟩ := m_clE hf
  replace hR := frs_t hR (fw_isCastling ho) (by decide) (by decide)
  clear ho
  rcases m_ifE hf with ⟨-, hf⟩ | ⟨-, hf⟩
  ·
    obtain ⟨-, hf⟩ := m_chkE hf
    obtain ⟨v7, ev, hf⟩ := m_bndE hf
    clear ev
    obtain ⟨or8, ho, hf⟩ := m_clE hf
    replace hR := frs_t hR (fw_kind ho) (by decide) (by decide)
    clear ho
    rcases m_ifE hf with ⟨-, hf⟩ | ⟨-, hf⟩
    ·
      exact frs_t hR (fw_spellMove_110  hf) (fun _ h => h) (fun _ h => h)
    ·
      obtain ⟨-, hf⟩ := m_chkE hf
      obtain ⟨v9, ev, hf⟩ := m_bndE hf
      clear ev
      obtain ⟨or10, ho, hf⟩ := m_clE hf
      replace hR := frs_t hR (fw_kind ho) (by decide) (by decide)
      clear ho
      obtain ⟨or11, ho, hf⟩ := m_clE hf
      replace hR := frs_t hR (fw_letter ho) (by decide) (by decide)
      clear ho
      obtain ⟨or12, ho, hf⟩ := m_clE hf
      replace hR := frs_t hR (fw_spell ho) (by decide) (by decide)
      clear ho
      exact frs_t hR (fw_spellMove_110  hf) (fun _ h => h) (fun _ h => h)
  ·
    exact frs_t hR (fw_spellMove_38  mFuel _ _ _ _ _ _ hf) (fun _ h => h) (fun _ h => h)
theorem fw_spellMove {o : Int32 × MS} {x1 : Int32} {x2 : Int32} {x3 : Int32} {I : Nat → Int32} {A : Nat → Nat → Int32} (hf : f_spellMove x1 x2 x3 I A = some o) : FrS [36] [35] I A o.2.1 o.2.2 := fw_spellMove_0  hf
theorem fw_isSafeOnce_169 {o : Int32 × MS} {x9 : Int32} {I : Nat → Int32} {A : Nat → Nat → Int32}  (hf : f_isSafeOnce_169 x9 I A = some o) : FrS [] [24] I A o.2.1 o.2.2 := by
  have hR : FrS [] [24] I A I A := frs_0
  unfold f_isSafeOnce_169 at hf
  obtain ⟨-, hf⟩ := m_chkE hf
  cases hf
  exact hR
theorem fw_isSafeOnce_137 {o : Int32 × MS} {x2 : Int32} {x3 : Int32} {x4 : Int32} {x5 : Int32} {x6 : Int32} {x7 : Int32} {x8 : Int32} {t0 : Int32} {I : Nat → Int32} {A : Nat → Nat → Int32}  (hf : f_isSafeOnce_137 x2 x3 x4 x5 x6 x7 x8 t0 I A = some o) : FrS [] [24] I A o.2.1 o.2.2 := by
  have hR : FrS [] [24] I A I A := frs_0
  unfold f_isSafeOnce_137 at hf
  obtain ⟨-, hf⟩ := m_chkE hf
  obtain ⟨A1, ev, hf⟩ := m_bndE hf
  replace hR := frs_A hR (by decide) ev
  clear ev
  obtain ⟨-, hf⟩ := m_chkE hf
  obtain ⟨A2, ev, hf⟩ := m_bndE hf
  replace hR := frs_A hR (by decide) ev
  clear ev
  rcases m_ifE hf with ⟨-, hf⟩ | ⟨-, hf⟩
  ·
    exact frs_t hR (fw_isSafeOnce_169  hf) (fun _ h => h) (fun _ h => h)
  ·
    obtain ⟨-, hf⟩ := m_chkE hf
    obtain ⟨A3, ev, hf⟩ := m_bndE hf
    replace hR := frs_A hR (by decide) ev
    clear ev
    exact frs_t hR (fw_isSafeOnce_169  hf) (fun _ h => h) (fun _ h => h)
theorem fw_isSafeOnce_121 {o : Int32 × MS} {x2 : Int32} {x3 : Int32} {x4 : Int32} {x5 : Int32} {x6 : Int32} {x7 : Int32} {x8 : Int32} {I : Nat → Int32} {A : Nat → Nat → Int32}  (hf : f_isSafeOnce_121 x2 x3 x4 x5 x6 x7 x8 I A = some o) : FrS [] [24] I A o.2.1 o.2.2 := by
  have hR : FrS [] [24] I A I A := frs_0
  unfold f_isSafeOnce_121 at hf
  obtain ⟨or1, ho, hf⟩ := m_clE hf
  replace hR := frs_t hR (fw_isInCheck ho) (by decide) (by decide)
  clear ho
  rcases m_ifE hf with ⟨-, hf⟩ | ⟨-, hf⟩
  ·
    exact frs_t hR (fw_isSafeOnce_137  hf) (fun _ h => h) (fun _ h => h)
  ·
    exact frs_t hR (fw_isSafeOnce_137  hf) (fun _ h => h) (fun _ h => h)
theorem fw_isSafeOnce_91 {o : Int32 × MS} {x2 : Int32} {x3 : Int32} {x4 : Int32} {x5 : Int32} {x6 : Int32} {x7 : Int32} {t0 : Int32} {I : Nat → Int32} {A : Nat → Nat → Int32}  (hf : f_isSafeOnce_91 x2 x3 x4 x5 x6 x7 t0 I A = some o) : FrS [] [24] I A o.2.1 o.2.2 := by
  have hR : FrS [] [24] I A I A := frs_0
  unfold f_isSafeOnce_91 at hf
  obtain ⟨-, hf⟩ := m_chkE hf
  obtain ⟨A1, ev, hf⟩ := m_bndE hf
  replace hR := frs_A hR (by decide) ev
  clear ev
  obtain ⟨-, hf⟩ := m_chkE hf
  obtain ⟨A2, ev, hf⟩ := m_bndE hf
  replace hR := frs_A hR (by decide) ev
  clear ev
  rcases m_ifE hf with ⟨-, hf⟩ | ⟨-, hf⟩
  ·
    exact frs_t hR (fw_isSafeOnce_121  hf) (fun _ h => h) (fun _ h => h)
  ·
    obtain ⟨-, hf⟩ := m_chkE hf
    obtain ⟨A3, ev, hf⟩ := m_bndE hf
    replace hR := frs_A hR (by decide) ev
    clear ev
    exact frs_t hR (fw_isSafeOnce_121  hf) (fun _ h => h) (fun _ h => h)
theorem fw_isSafeOnce_73 {o : Int32 × MS} {x2 : Int32} {x3 : Int32} {x4 : Int32} {x5 : Int32} {x6 : Int32} {t0 : Int32} {I : Nat → Int32} {A : Nat → Nat → Int32}  (hf : f_isSafeOnce_73 x2 x3 x4 x5 x6 t0 I A = some o) : FrS [] [24] I A o.2.1 o.2.2 := by
  have hR : FrS [] [24] I A I A := frs_0
  unfold f_isSafeOnce_73 at hf
  rcases m_ifE hf with ⟨-, hf⟩ | ⟨-, hf⟩
  ·
    exact frs_t hR (fw_isSafeOnce_91  hf) (fun _ h => h) (fun _ h => h)
  ·
    obtain ⟨-, hf⟩ := m_chkE hf
    obtain ⟨v1, ev, hf⟩ := m_bndE hf
    clear ev
    exact frs_t hR (fw_isSafeOnce_91  hf) (fun _ h => h) (fun _ h => h)
theorem fw_isSafeOnce_72 {o : Int32 × MS} {x2 : Int32} {x3 : Int32} {x4 : Int32} {x5 : Int32} {x6 : Int32} {I : Nat → Int32} {A : Nat → Nat → Int32}  (hf : f_isSafeOnce_72 x2 x3 x4 x5 x6 I A = some o) : FrS [] [24] I A o.2.1 o.2.2 := by
  have hR : FrS [] [24] I A I A := frs_0
  unfold f_isSafeOnce_72 at hf
  exact frs_t hR (fw_isSafeOnce_73  hf) (fun _ h => h) (fun _ h => h)
theorem fw_isSafeOnce_0 {o : Int32 × MS} {x1 : Int32} {I : Nat → Int32} {A : Nat → Nat → Int32}  (hf : f_isSafeOnce_0 x1 I A = some o) : FrS [] [24] I A o.2.1 o.2.2 := by
  have hR : FrS [] [24] I A I A := frs_0
  unfold f_isSafeOnce_0 at hf
  obtain ⟨v1, ev, hf⟩ := m_bndE hf
  clear ev
  obtain ⟨v2, ev, hf⟩ := m_bndE hf
  clear ev
  obtain ⟨v3, ev, hf⟩ := m_bndE hf
  clear ev
  obtain ⟨-, hf⟩ := m_chkE hf
  obtain ⟨v4, ev, hf⟩ := m_bndE hf
  clear ev
  obtain ⟨-, hf⟩ := m_chkE hf
  obtain ⟨v5, ev, hf⟩ := m_bndE hf
  clear ev
  obtain ⟨v6, ev, hf⟩ := m_bndE hf
  clear ev
  obtain ⟨v7, ev, hf⟩ := m_bndE hf
  clear ev
  obtain ⟨v8, ev, hf⟩ := m_bndE hf
  clear ev
  obtain ⟨v9, ev, hf⟩ := m_bndE hf
  clear ev
  obtain ⟨or10, ho, hf⟩ := m_clE hf
  replace hR := frs_t hR (fw_kind ho) (by decide) (by decide)
  clear ho
  rcases m_ifE hf with ⟨-, hf⟩ | ⟨-, hf⟩
  ·
    rcases m_ifE hf with ⟨-, hf⟩ | ⟨-, hf⟩
    ·
      obtain ⟨v11, ev, hf⟩ := m_bndE hf
      clear ev
      obtain ⟨v12, ev, hf⟩ := m_bndE hf
      clear ev
      rcases m_ifE hf with ⟨-, hf⟩ | ⟨-, hf⟩
      ·
        exact frs_t hR (fw_isSafeOnce_72  hf) (fun _ h => h) (fun _ h => h)
      ·
        exact frs_t hR (fw_isSafeOnce_73  hf) (fun _ h => h) (fun _ h => h)
    ·
      exact frs_t hR (fw_isSafeOnce_72  hf) (fun _ h => h) (fun _ h => h)
  ·
    exact frs_t hR (fw_isSafeOnce_72  hf) (fun _ h => h) (fun _ h => h)
theorem fw_isSafeOnce {o : Int32 × MS} {x1 : Int32} {I : Nat → Int32} {A : Nat → Nat → Int32} (hf : f_isSafeOnce x1 I A = some o) : FrS [] [24] I A o.2.1 o.2.2 := fw_isSafeOnce_0  hf
theorem fw_behind_98 {o : Int32 × MS} {x2 : Int32} {I : Nat → Int32} {A : Nat → Nat → Int32}  (hf : f_behind_98 x2 I A = some o) : FrS [25, 26, 27, 28, 29] [24, 30, 31] I A o.2.1 o.2.2 := by
  have hR : FrS [25, 26, 27, 28, 29] [24, 30, 31] I A I A := frs_0
  unfold f_behind_98 at hf
  obtain ⟨or1, ho, hf⟩ := m_clE hf
  replace hR := frs_t hR (fw_bringBack ho) (by decide) (by decide)
  clear ho
  obtain ⟨-, hf⟩ := m_chkE hf
  cases hf
  exact hR
theorem fw_behind_92 {o : Int32 × MS} {self27 : Int32 → Int32 → (Nat → Int32) → (Nat → Nat → Int32) → Option (Int32 × MS)} {x2 : Int32} {x3 : Int32} {I : Nat → Int32} {A : Nat → Nat → Int32} (hself27 : ∀ (z0 : Int32) (z1 : Int32) (I : Nat → Int32) (A : Nat → Nat → Int32) (o : Int32 × MS), self27 z0 z1 I A = some o → FrS [25, 26, 27, 28, 29] [24, 30, 31] I A o.2.1 o.2.2) (hf : f_behind_92 self27 x2 x3 I A = some o) : FrS [25, 26, 27, 28, 29] [24, 30, 31] I A o.2.1 o.2.2 := by
  have hR : FrS [25, 26, 27, 28, 29] [24, 30, 31] I A I A := frs_0
  unfold f_behind_92 at hf
  obtain ⟨v1, ev, hf⟩ := m_bndE hf
  clear ev
  exact frs_t hR (hself27 _ _ _ _ _ hf) (fun _ h => h) (fun _ h => h)
theorem fw_behind_85 {o : Int32 × MS} {self27 : Int32 → Int32 → (Nat → Int32) → (Nat → Nat → Int32) → Option (Int32 × MS)} {self42 : Int32 → Int32 → Int32 → (Nat → Int32) → (Nat → Nat → Int32) → Option (Int32 × MS)} {x3 : Int32} {x4 : Int32} {t0 : Int32} {I : Nat → Int32} {A : Nat → Nat → Int32} (hself27 : ∀ (z0 : Int32) (z1 : Int32) (I : Nat → Int32) (A : Nat → Nat → Int32) (o : Int32 × MS), self27 z0 z1 I A = some o → FrS [25, 26, 27, 28, 29] [24, 30, 31] I A o.2.1 o.2.2) (hself42 : ∀ (z0 : Int32) (z1 : Int32) (z2 : Int32) (I : Nat → Int32) (A : Nat → Nat → Int32) (o : Int32 × MS), self42 z0 z1 z2 I A = some o → FrS [25, 26, 27, 28, 29] [24, 30, 31] I A o.2.1 o.2.2) (hf : f_behind_85 self27 self42 x3 x4 t0 I A = some o) : FrS [25, 26, 27, 28, 29] [24, 30, 31] I A o.2.1 o.2.2 := by
  have hR : FrS [25, 26, 27, 28, 29] [24, 30, 31] I A I A := frs_0
  unfold f_behind_85 at hf
  obtain ⟨v1, ev, hf⟩ := m_bndE hf
  clear ev
  exact frs_t hR (hself42 _ _ _ _ _ _ hf) (fun _ h => h) (fun _ h => h)
theorem fw_behind_84 {o : Int32 × MS} {self27 : Int32 → Int32 → (Nat → Int32) → (Nat → Nat → Int32) → Option (Int32 × MS)} {self42 : Int32 → Int32 → Int32 → (Nat → Int32) → (Nat → Nat → Int32) → Option (Int32 × MS)} {x2 : Int32} {x3 : Int32} {x4 : Int32} {I : Nat → Int32} {A : Nat → Nat → Int32} (hself27 : ∀ (z0 : Int32) (z1 : Int32) (I : Nat → Int32) (A : Nat → Nat → Int32) (o : Int32 × MS), self27 z0 z1 I A = some o → FrS [25, 26, 27, 28, 29] [24, 30, 31] I A o.2.1 o.2.2) (hself42 : ∀ (z0 : Int32) (z1 : Int32) (z2 : Int32) (I : Nat → Int32) (A : Nat → Nat → Int32) (o : Int32 × MS), self42 z0 z1 z2 I A = some o → FrS [25, 26, 27, 28, 29] [24, 30, 31] I A o.2.1 o.2.2) (hf : f_behind_84 self27 self42 x2 x3 x4 I A = some o) : FrS [25, 26, 27, 28, 29] [24, 30, 31] I A o.2.1 o.2.2 := by
  have hR : FrS [25, 26, 27, 28, 29] [24, 30, 31] I A I A := frs_0
  unfold f_behind_84 at hf
  exact frs_t hR (fw_behind_85 hself27 hself42 hf) (fun _ h => h) (fun _ h => h)
theorem fw_behind_42s {o : Int32 × MS} {self27 : Int32 → Int32 → (Nat → Int32) → (Nat → Nat → Int32) → Option (Int32 × MS)} {self42 : Int32 → Int32 → Int32 → (Nat → Int32) → (Nat → Nat → Int32) → Option (Int32 × MS)} {x2 : Int32} {x3 : Int32} {x4 : Int32} {I : Nat → Int32} {A : Nat → Nat → Int32} (hself27 : ∀ (z0 : Int32) (z1 : Int32) (I : Nat → Int32) (A : Nat → Nat → Int32) (o : Int32 × MS), self27 z0 z1 I A = some o → FrS [25, 26, 27, 28, 29] [24, 30, 31] I A o.2.1 o.2.2) (hself42 : ∀ (z0 : Int32) (z1 : Int32) (z2 : Int32) (I : Nat → Int32) (A : Nat → Nat → Int32) (o : Int32 × MS), self42 z0 z1 z2 I A = some o → FrS [25, 26, 27, 28, 29] [24, 30, 31] I A o.2.1 o.2.2) (hf : f_behind_42s self27 self42 x2 x3 x4 I A = some o) : FrS [25, 26, 27, 28, 29] [24, 30, 31] I A o.2.1 o.2.2 := by
  have hR : FrS [25, 26, 27, 28, 29] [24, 30, 31] I A I A := frs_0
  unfold f_behind_42s at hf
  rcases m_ifE hf with ⟨-, hf⟩ | ⟨-, hf⟩
  ·
    exact frs_t hR (fw_behind_92 hself27 hf) (fun _ h => h) (fun _ h => h)
  ·
    rcases m_ifE hf with ⟨-, hf⟩ | ⟨-, hf⟩
    ·
      obtain ⟨or1, ho, hf⟩ := m_clE hf
      replace hR := frs_t hR (fw_goes ho) (by decide) (by decide)
      clear ho
      rcases m_ifE hf with ⟨-, hf⟩ | ⟨-, hf⟩
      ·
        exact frs_t hR (fw_behind_84 hself27 hself42 hf) (fun _ h => h) (fun _ h => h)
      ·
        obtain ⟨v2, ev, hf⟩ := m_bndE hf
        clear ev
        obtain ⟨v3, ev, hf⟩ := m_bndE hf
        clear ev
        obtain ⟨or4, ho, hf⟩ := m_clE hf
        replace hR := frs_t hR (fw_isSafeOnce ho) (by decide) (by decide)
        clear ho
        rcases m_ifE hf with ⟨-, hf⟩ | ⟨-, hf⟩
        ·
          exact frs_t hR (fw_behind_84 hself27 hself42 hf) (fun _ h => h) (fun _ h => h)
        ·
          exact frs_t hR (fw_behind_85 hself27 hself42 hf) (fun _ h => h) (fun _ h => h)
    ·
      exact frs_t hR (fw_behind_92 hself27 hf) (fun _ h => h) (fun _ h => h)
theorem fw_behind_42 {self27 : Int32 → Int32 → (Nat → Int32) → (Nat → Nat → Int32) → Option (Int32 × MS)} (hself27 : ∀ (z0 : Int32) (z1 : Int32) (I : Nat → Int32) (A : Nat → Nat → Int32) (o : Int32 × MS), self27 z0 z1 I A = some o → FrS [25, 26, 27, 28, 29] [24, 30, 31] I A o.2.1 o.2.2) (n : Nat) : ∀ (y0 : Int32) (y1 : Int32) (y2 : Int32) (I : Nat → Int32) (A : Nat → Nat → Int32) (o : Int32 × MS), f_behind_42 self27 n y0 y1 y2 I A = some o → FrS [25, 26, 27, 28, 29] [24, 30, 31] I A o.2.1 o.2.2 := by
  induction n with
  | zero => intro y0 y1 y2 I A o hf; cases hf
  | succ n ih => intro y0 y1 y2 I A o hf; exact fw_behind_42s hself27 ih hf
theorem fw_behind_27s {o : Int32 × MS} {self27 : Int32 → Int32 → (Nat → Int32) → (Nat → Nat → Int32) → Option (Int32 × MS)} {x2 : Int32} {x3 : Int32} {I : Nat → Int32} {A : Nat → Nat → Int32} (hself27 : ∀ (z0 : Int32) (z1 : Int32) (I : Nat → Int32) (A : Nat → Nat → Int32) (o : Int32 × MS), self27 z0 z1 I A = some o → FrS [25, 26, 27, 28, 29] [24, 30, 31] I A o.2.1 o.2.2) (hf : f_behind_27s self27 x2 x3 I A = some o) : FrS [25, 26, 27, 28, 29] [24, 30, 31] I A o.2.1 o.2.2 := by
  have hR : FrS [25, 26, 27, 28, 29] [24, 30, 31] I A I A := frs_0
  unfold f_behind_27s at hf
  rcases m_ifE hf with ⟨-, hf⟩ | ⟨-, hf⟩
  ·
    exact frs_t hR (fw_behind_98  hf) (fun _ h => h) (fun _ h => h)
  ·
    rcases m_ifE hf with ⟨-, hf⟩ | ⟨-, hf⟩
    ·
      exact frs_t hR (fw_behind_42 hself27 mFuel _ _ _ _ _ _ hf) (fun _ h => h) (fun _ h => h)
    ·
      exact frs_t hR (fw_behind_98  hf) (fun _ h => h) (fun _ h => h)
theorem fw_behind_27   (n : Nat) : ∀ (y0 : Int32) (y1 : Int32) (I : Nat → Int32) (A : Nat → Nat → Int32) (o : Int32 × MS), f_behind_27  n y0 y1 I A = some o → FrS [25, 26, 27, 28, 29] [24, 30, 31] I A o.2.1 o.2.2 := by
  induction n with
  | zero => intro y0 y1 I A o hf; cases hf
  | succ n ih => intro y0 y1 I A o hf; exact fw_behind_27s  ih hf
theorem fw_behind_0 {o : Int32 × MS} {x1 : Int32} {I : Nat → Int32} {A : Nat → Nat → Int32}  (hf : f_behind_0 x1 I A = some o) : FrS [25, 26, 27, 28, 29] [24, 30, 31] I A o.2.1 o.2.2 := by
  have hR : FrS [25, 26, 27, 28, 29] [24, 30, 31] I A I A := frs_0
  unfold f_behind_0 at hf
  obtain ⟨or1, ho, hf⟩ := m_clE hf
  replace hR := frs_t hR (fw_keep ho) (by decide) (by decide)
  clear ho
  obtain ⟨or2, ho, hf⟩ := m_clE hf
  replace hR := frs_t hR (fw_make ho) (by decide) (by decide)
  clear ho
  obtain ⟨or3, ho, hf⟩ := m_clE hf
  replace hR := frs_t hR (fw_isInCheck ho) (by decide) (by decide)
  clear ho
  rcases m_ifE hf with ⟨-, hf⟩ | ⟨-, hf⟩
  ·
    exact frs_t hR (fw_behind_98  hf) (fun _ h => h) (fun _ h => h)
  ·
    exact frs_t hR (fw_behind_27  mFuel _ _ _ _ _ hf) (fun _ h => h) (fun _ h => h)
theorem fw_behind {o : Int32 × MS} {x1 : Int32} {I : Nat → Int32} {A : Nat → Nat → Int32} (hf : f_behind x1 I A = some o) : FrS [25, 26, 27, 28, 29] [24, 30, 31] I A o.2.1 o.2.2 := fw_behind_0  hf
theorem fw_apartOf_195 {o : Int32 × MS} {t0 : Int32} {I : Nat → Int32} {A : Nat → Nat → Int32}  (hf : f_apartOf_195 t0 I A = some o) : FrS [] [] I A o.2.1 o.2.2 := by
  have hR : FrS [] [] I A I A := frs_0
  unfold f_apartOf_195 at hf
  cases hf
  exact hR
theorem fw_apartOf_161 {o : Int32 × MS} {self46 : Int32 → Int32 → Int32 → Int32 → Int32 → Int32 → Int32 → (Nat → Int32) → (Nat → Nat → Int32) → Option (Int32 × MS)} {x1 : Int32} {x2 : Int32} {x3 : Int32} {x4 : Int32} {x5 : Int32} {x6 : Int32} {x7 : Int32} {I : Nat → Int32} {A : Nat → Nat → Int32} (hself46 : ∀ (z0 : Int32) (z1 : Int32) (z2 : Int32) (z3 : Int32) (z4 : Int32) (z5 : Int32) (z6 : Int32) (I : Nat → Int32) (A : Nat → Nat → Int32) (o : Int32 × MS), self46 z0 z1 z2 z3 z4 z5 z6 I A = some o → FrS [] [] I A o.2.1 o.2.2) (hf : f_apartOf_161 self46 x1 x2 x3 x4 x5 x6 x7 I A = some o) : FrS [] [] I A o.2.1 o.2.2 := by
  have hR : FrS [] [] I A I A := frs_0
  unfold f_apartOf_161 at hf
  obtain ⟨v1, ev, hf⟩ := m_bndE hf
  clear ev
  exact frs_t hR (hself46 _ _ _ _ _ _ _ _ _ _ hf) (fun _ h => h) (fun _ h => h)
theorem fw_apartOf_159 {o : Int32 × MS} {self46 : Int32 → Int32 → Int32 → Int32 → Int32 → Int32 → Int32 → (Nat → Int32) → (Nat → Nat → Int32) → Option (Int32 × MS)} {x1 : Int32} {x2 : Int32} {x3 : Int32} {x4 : Int32} {x5 : Int32} {x7 : Int32} {t0 : Int32} {I : Nat → Int32} {A : Nat → Nat → Int32} (hself46 : ∀ (z0 : Int32) (z1 : Int32) (z2 : Int32) (z3 : Int32) (z4 : Int32) (z5 : Int32) (z6 : Int32) (I : Nat → Int32) (A : Nat → Nat → Int32) (o : Int32 × MS), self46 z0 z1 z2 z3 z4 z5 z6 I A = some o → FrS [] [] I A o.2.1 o.2.2) (hf : f_apartOf_159 self46 x1 x2 x3 x4 x5 x7 t0 I A = some o) : FrS [] [] I A o.2.1 o.2.2 := by
  have hR : FrS [] [] I A I A := frs_0
  unfold f_apartOf_159 at hf
  exact frs_t hR (fw_apartOf_161 hself46 hf) (fun _ h => h) (fun _ h => h)
theorem fw_apartOf_154 {o : Int32 × MS} {self46 : Int32 → Int32 → Int32 → Int32 → Int32 → Int32 → Int32 → (Nat → Int32) → (Nat → Nat → Int32) → Option (Int32 × MS)} {x1 : Int32} {x2 : Int32} {x3 : Int32} {x4 : Int32} {x5 : Int32} {x7 : Int32} {I : Nat → Int32} {A : Nat → Nat → Int32} (hself46 : ∀ (z0 : Int32) (z1 : Int32) (z2 : Int32) (z3 : Int32) (z4 : Int32) (z5 : Int32) (z6 : Int32) (I : Nat → Int32) (A : Nat → Nat → Int32) (o : Int32 × MS), self46 z0 z1 z2 z3 z4 z5 z6 I A = some o → FrS [] [] I A o.2.1 o.2.2) (hf : f_apartOf_154 self46 x1 x2 x3 x4 x5 x7 I A = some o) : FrS [] [] I A o.2.1 o.2.2 := by
  have hR : FrS [] [] I A I A := frs_0
  unfold f_apartOf_154 at hf
  exact frs_t hR (fw_apartOf_159 hself46 hf) (fun _ h => h) (fun _ h => h)
theorem fw_apartOf_135 {o : Int32 × MS} {self46 : Int32 → Int32 → Int32 → Int32 → Int32 → Int32 → Int32 → (Nat → Int32) → (Nat → Nat → Int32) → Option (Int32 × MS)} {x1 : Int32} {x2 : Int32} {x3 : Int32} {x4 : Int32} {x6 : Int32} {x7 : Int32} {x8 : Int32} {t0 : Int32} {I : Nat → Int32} {A : Nat → Nat → Int32} (hself46 : ∀ (z0 : Int32) (z1 : Int32) (z2 : Int32) (z3 : Int32) (z4 : Int32) (z5 : Int32) (z6 : Int32) (I : Nat → Int32) (A : Nat → Nat → Int32) (o : Int32 × MS), self46 z0 z1 z2 z3 z4 z5 z6 I A = some o → FrS [] [] I A o.2.1 o.2.2) (hf : f_apartOf_135 self46 x1 x2 x3 x4 x6 x7 x8 t0 I A = some o) : FrS [] [] I A o.2.1 o.2.2 := by
  have hR : FrS [] [] I A I A := frs_0
  unfold f_apartOf_135 at hf
  rcases m_ifE hf with ⟨-, hf⟩ | ⟨-, hf⟩
  ·
    obtain ⟨v1, ev, hf⟩ := m_bndE hf
    clear ev
    obtain ⟨v2, ev, hf⟩ := m_bndE hf
    clear ev
    rcases m_ifE hf with ⟨-, hf⟩ | ⟨-, hf⟩
    ·
      exact frs_t hR (fw_apartOf_154 hself46 hf) (fun _ h => h) (fun _ h => h)
    ·
      exact frs_t hR (fw_apartOf_159 hself46 hf) (fun _ h => h) (fun _ h => h)
  ·
    exact frs_t hR (fw_apartOf_154 hself46 hf) (fun _ h => h) (fun _ h => h)
theorem fw_apartOf_130 {o : Int32 × MS} {self46 : Int32 → Int32 → Int32 → Int32 → Int32 → Int32 → Int32 → (Nat → Int32) → (Nat → Nat → Int32) → Option (Int32 × MS)} {x1 : Int32} {x2 : Int32} {x3 : Int32} {x4 : Int32} {x6 : Int32} {x7 : Int32} {x8 : Int32} {I : Nat → Int32} {A : Nat → Nat → Int32} (hself46 : ∀ (z0 : Int32) (z1 : Int32) (z2 : Int32) (z3 : Int32) (z4 : Int32) (z5 : Int32) (z6 : Int32) (I : Nat → Int32) (A : Nat → Nat → Int32) (o : Int32 × MS), self46 z0 z1 z2 z3 z4 z5 z6 I A = some o → FrS [] [] I A o.2.1 o.2.2) (hf : f_apartOf_130 self46 x1 x2 x3 x4 x6 x7 x8 I A = some o) : FrS [] [] I A o.2.1 o.2.2 := by
  have hR : FrS [] [] I A I A := frs_0
  unfold f_apartOf_130 at hf
  exact frs_t hR (fw_apartOf_135 hself46 hf) (fun _ h => h) (fun _ h => h)
theorem fw_apartOf_46s {o : Int32 × MS} {self46 : Int32 → Int32 → Int32 → Int32 → Int32 → Int32 → Int32 → (Nat → Int32) → (Nat → Nat → Int32) → Option (Int32 × MS)} {x1 : Int32} {x2 : Int32} {x3 : Int32} {x4 : Int32} {x5 : Int32} {x6 : Int32} {x7 : Int32} {I : Nat → Int32} {A : Nat → Nat → Int32} (hself46 : ∀ (z0 : Int32) (z1 : Int32) (z2 : Int32) (z3 : Int32) (z4 : Int32) (z5 : Int32) (z6 : Int32) (I : Nat → Int32) (A : Nat → Nat → Int32) (o : Int32 × MS), self46 z0 z1 z2 z3 z4 z5 z6 I A = some o → FrS [] [] I A o.2.1 o.2.2) (hf : f_apartOf_46s self46 x1 x2 x3 x4 x5 x6 x7 I A = some o) : FrS [] [] I A o.2.1 o.2.2 := by
  have hR : FrS [] [] I A I A := frs_0
  unfold f_apartOf_46s at hf
  rcases m_ifE hf with ⟨-, hf⟩ | ⟨-, hf⟩
  ·
    rcases m_ifE hf with ⟨-, hf⟩ | ⟨-, hf⟩
    ·
      exact frs_t hR (fw_apartOf_195  hf) (fun _ h => h) (fun _ h => h)
    ·
      rcases m_ifE hf with ⟨-, hf⟩ | ⟨-, hf⟩
      ·
        exact frs_t hR (fw_apartOf_195  hf) (fun _ h => h) (fun _ h => h)
      ·
        rcases m_ifE hf with ⟨-, hf⟩ | ⟨-, hf⟩
        ·
          exact frs_t hR (fw_apartOf_195  hf) (fun _ h => h) (fun _ h => h)
        ·
          exact frs_t hR (fw_apartOf_195  hf) (fun _ h => h) (fun _ h => h)
  ·
    obtain ⟨-, hf⟩ := m_chkE hf
    obtain ⟨v1, ev, hf⟩ := m_bndE hf
    clear ev
    obtain ⟨v2, ev, hf⟩ := m_bndE hf
    clear ev
    rcases m_ifE hf with ⟨-, hf⟩ | ⟨-, hf⟩
    ·
      exact frs_t hR (fw_apartOf_161 hself46 hf) (fun _ h => h) (fun _ h => h)
    ·
      obtain ⟨-, hf⟩ := m_chkE hf
      obtain ⟨v3, ev, hf⟩ := m_bndE hf
      clear ev
      obtain ⟨v4, ev, hf⟩ := m_bndE hf
      clear ev
      obtain ⟨v5, ev, hf⟩ := m_bndE hf
      clear ev
      obtain ⟨v6, ev, hf⟩ := m_bndE hf
      clear ev
      obtain ⟨v7, ev, hf⟩ := m_bndE hf
      clear ev
      rcases m_ifE hf with ⟨-, hf⟩ | ⟨-, hf⟩
      ·
        obtain ⟨-, hf⟩ := m_chkE hf
        obtain ⟨v8, ev, hf⟩ := m_bndE hf
        clear ev
        obtain ⟨or9, ho, hf⟩ := m_clE hf
        replace hR := frs_t hR (fw_kind ho) (by decide) (by decide)
        clear ho
        rcases m_ifE hf with ⟨-, hf⟩ | ⟨-, hf⟩
        ·
          rcases m_ifE hf with ⟨-, hf⟩ | ⟨-, hf⟩
          ·
            obtain ⟨v10, ev, hf⟩ := m_bndE hf
            clear ev
            obtain ⟨v11, ev, hf⟩ := m_bndE hf
            clear ev
            rcases m_ifE hf with ⟨-, hf⟩ | ⟨-, hf⟩
            ·
              exact frs_t hR (fw_apartOf_130 hself46 hf) (fun _ h => h) (fun _ h => h)
            ·
              exact frs_t hR (fw_apartOf_135 hself46 hf) (fun _ h => h) (fun _ h => h)
          ·
            exact frs_t hR (fw_apartOf_130 hself46 hf) (fun _ h => h) (fun _ h => h)
        ·
          exact frs_t hR (fw_apartOf_161 hself46 hf) (fun _ h => h) (fun _ h => h)
      ·
        exact frs_t hR (fw_apartOf_161 hself46 hf) (fun _ h => h) (fun _ h => h)
theorem fw_apartOf_46   (n : Nat) : ∀ (y0 : Int32) (y1 : Int32) (y2 : Int32) (y3 : Int32) (y4 : Int32) (y5 : Int32) (y6 : Int32) (I : Nat → Int32) (A : Nat → Nat → Int32) (o : Int32 × MS), f_apartOf_46  n y0 y1 y2 y3 y4 y5 y6 I A = some o → FrS [] [] I A o.2.1 o.2.2 := by
  induction n with
  | zero => intro y0 y1 y2 y3 y4 y5 y6 I A o hf; cases hf
  | succ n ih => intro y0 y1 y2 y3 y4 y5 y6 I A o hf; exact fw_apartOf_46s  ih hf
theorem fw_apartOf_33 {o : Int32 × MS} {t0 : Int32} {I : Nat → Int32} {A : Nat → Nat → Int32}  (hf : f_apartOf_33 t0 I A = some o) : FrS [] [] I A o.2.1 o.2.2 := by
  have hR : FrS [] [] I A I A := frs_0
  unfold f_apartOf_33 at hf
  cases hf
  exact hR
theorem fw_apartOf_0 {o : Int32 × MS} {x1 : Int32} {I : Nat → Int32} {A : Nat → Nat → Int32}  (hf : f_apartOf_0 x1 I A = some o) : FrS [] [] I A o.2.1 o.2.2 := by
  have hR : FrS [] [] I A I A := frs_0
  unfold f_apartOf_0 at hf
  obtain ⟨v1, ev, hf⟩ := m_bndE hf
  clear ev
  obtain ⟨-, hf⟩ := m_chkE hf
  obtain ⟨v2, ev, hf⟩ := m_bndE hf
  clear ev
  obtain ⟨or3, ho, hf⟩ := m_clE hf
  replace hR := frs_t hR (fw_kind ho) (by decide) (by decide)
  clear ho
  rcases m_ifE hf with ⟨-, hf⟩ | ⟨-, hf⟩
  ·
    obtain ⟨or4, ho, hf⟩ := m_clE hf
    replace hR := frs_t hR (fw_isTaking ho) (by decide) (by decide)
    clear ho
    rcases m_ifE hf with ⟨-, hf⟩ | ⟨-, hf⟩
    ·
      exact frs_t hR (fw_apartOf_33  hf) (fun _ h => h) (fun _ h => h)
    ·
      exact frs_t hR (fw_apartOf_33  hf) (fun _ h => h) (fun _ h => h)
  ·
    exact frs_t hR (fw_apartOf_46  mFuel _ _ _ _ _ _ _ _ _ _ hf) (fun _ h => h) (fun _ h => h)
theorem fw_apartOf {o : Int32 × MS} {x1 : Int32} {I : Nat → Int32} {A : Nat → Nat → Int32} (hf : f_apartOf x1 I A = some o) : FrS [] [] I A o.2.1 o.2.2 := fw_apartOf_0  hf
theorem fw_spellWhole_30 {o : Int32 × MS} {I : Nat → Int32} {A : Nat → Nat → Int32}  (hf : f_spellWhole_30 I A = some o) : FrS [25, 26, 27, 28, 29, 36] [24, 30, 31, 35] I A o.2.1 o.2.2 := by
  have hR : FrS [25, 26, 27, 28, 29, 36] [24, 30, 31, 35] I A I A := frs_0
  unfold f_spellWhole_30 at hf
  cases hf
  exact hR
theorem fw_spellWhole_0 {o : Int32 × MS} {x1 : Int32} {I : Nat → Int32} {A : Nat → Nat → Int32}  (hf : f_spellWhole_0 x1 I A = some o) : FrS [25, 26, 27, 28, 29, 36] [24, 30, 31, 35] I A o.2.1 o.2.2 := by
  have hR : FrS [25, 26, 27, 28, 29, 36] [24, 30, 31, 35] I A I A := frs_0
  unfold f_spellWhole_0 at hf
  obtain ⟨or1, ho, hf⟩ := m_clE hf
  replace hR := frs_t hR (fw_apartOf ho) (by decide) (by decide)
  clear ho
  obtain ⟨or2, ho, hf⟩ := m_clE hf
  replace hR := frs_t hR (fw_isTaking ho) (by decide) (by decide)
  clear ho
  obtain ⟨or3, ho, hf⟩ := m_clE hf
  replace hR := frs_t hR (fw_spellMove ho) (by decide) (by decide)
  clear ho
  obtain ⟨or4, ho, hf⟩ := m_clE hf
  replace hR := frs_t hR (fw_behind ho) (by decide) (by decide)
  clear ho
  rcases m_ifE hf with ⟨-, hf⟩ | ⟨-, hf⟩
  ·
    exact frs_t hR (fw_spellWhole_30  hf) (fun _ h => h) (fun _ h => h)
  ·
    obtain ⟨or5, ho, hf⟩ := m_clE hf
    replace hR := frs_t hR (fw_spell ho) (by decide) (by decide)
    clear ho
    exact frs_t hR (fw_spellWhole_30  hf) (fun _ h => h) (fun _ h => h)
theorem fw_spellWhole {o : Int32 × MS} {x1 : Int32} {I : Nat → Int32} {A : Nat → Nat → Int32} (hf : f_spellWhole x1 I A = some o) : FrS [25, 26, 27, 28, 29, 36] [24, 30, 31, 35] I A o.2.1 o.2.2 := fw_spellWhole_0  hf
theorem fw_isSpelled_92 {o : Int32 × MS} {t0 : Int32} {I : Nat → Int32} {A : Nat → Nat → Int32}  (hf : f_isSpelled_92 t0 I A = some o) : FrS [] [] I A o.2.1 o.2.2 := by
  have hR : FrS [] [] I A I A := frs_0
  unfold f_isSpelled_92 at hf
  obtain ⟨-, hf⟩ := m_chkE hf
  cases hf
  exact hR
theorem fw_isSpelled_67 {o : Int32 × MS} {I : Nat → Int32} {A : Nat → Nat → Int32}  (hf : f_isSpelled_67 I A = some o) : FrS [] [] I A o.2.1 o.2.2 := by
  have hR : FrS [] [] I A I A := frs_0
  unfold f_isSpelled_67 at hf
  obtain ⟨-, hf⟩ := m_chkE hf
  cases hf
  exact hR
theorem fw_isSpelled_72 {o : Int32 × MS} {self6 : Int32 → Int32 → Int32 → Int32 → (Nat → Int32) → (Nat → Nat → Int32) → Option (Int32 × MS)} {x2 : Int32} {x3 : Int32} {x4 : Int32} {x5 : Int32} {I : Nat → Int32} {A : Nat → Nat → Int32} (hself6 : ∀ (z0 : Int32) (z1 : Int32) (z2 : Int32) (z3 : Int32) (I : Nat → Int32) (A : Nat → Nat → Int32) (o : Int32 × MS), self6 z0 z1 z2 z3 I A = some o → FrS [] [] I A o.2.1 o.2.2) (hf : f_isSpelled_72 self6 x2 x3 x4 x5 I A = some o) : FrS [] [] I A o.2.1 o.2.2 := by
  have hR : FrS [] [] I A I A := frs_0
  unfold f_isSpelled_72 at hf
  obtain ⟨v1, ev, hf⟩ := m_bndE hf
  clear ev
  exact frs_t hR (hself6 _ _ _ _ _ _ _ hf) (fun _ h => h) (fun _ h => h)
theorem fw_isSpelled_46 {o : Int32 × MS} {self6 : Int32 → Int32 → Int32 → Int32 → (Nat → Int32) → (Nat → Nat → Int32) → Option (Int32 × MS)} {x2 : Int32} {x3 : Int32} {x4 : Int32} {x5 : Int32} {x6 : Int32} {I : Nat → Int32} {A : Nat → Nat → Int32} (hself6 : ∀ (z0 : Int32) (z1 : Int32) (z2 : Int32) (z3 : Int32) (I : Nat → Int32) (A : Nat → Nat → Int32) (o : Int32 × MS), self6 z0 z1 z2 z3 I A = some o → FrS [] [] I A o.2.1 o.2.2) (hf : f_isSpelled_46 self6 x2 x3 x4 x5 x6 I A = some o) : FrS [] [] I A o.2.1 o.2.2 := by
  have hR : FrS [] [] I A I A := frs_0
  unfold f_isSpelled_46 at hf
  rcases m_ifE hf with ⟨-, hf⟩ | ⟨-, hf⟩
  ·
    exact frs_t hR (fw_isSpelled_67  hf) (fun _ h => h) (fun _ h => h)
  ·
    obtain ⟨-, hf⟩ := m_chkE hf
    obtain ⟨v1, ev, hf⟩ := m_bndE hf
    clear ev
    rcases m_ifE hf with ⟨-, hf⟩ | ⟨-, hf⟩
    ·
      obtain ⟨v2, ev, hf⟩ := m_bndE hf
      clear ev
      exact frs_t hR (fw_isSpelled_72 hself6 hf) (fun _ h => h) (fun _ h => h)
    ·
      exact frs_t hR (fw_isSpelled_67  hf) (fun _ h => h) (fun _ h => h)
theorem fw_isSpelled_6s {o : Int32 × MS} {self6 : Int32 → Int32 → Int32 → Int32 → (Nat → Int32) → (Nat → Nat → Int32) → Option (Int32 × MS)} {x2 : Int32} {x3 : Int32} {x4 : Int32} {x5 : Int32} {I : Nat → Int32} {A : Nat → Nat → Int32} (hself6 : ∀ (z0 : Int32) (z1 : Int32) (z2 : Int32) (z3 : Int32) (I : Nat → Int32) (A : Nat → Nat → Int32) (o : Int32 × MS), self6 z0 z1 z2 z3 I A = some o → FrS [] [] I A o.2.1 o.2.2) (hf : f_isSpelled_6s self6 x2 x3 x4 x5 I A = some o) : FrS [] [] I A o.2.1 o.2.2 := by
  have hR : FrS [] [] I A I A := frs_0
  unfold f_isSpelled_6s at hf
  rcases m_ifE hf with ⟨-, hf⟩ | ⟨-, hf⟩
  ·
    rcases m_ifE hf with ⟨-, hf⟩ | ⟨-, hf⟩
    ·
      exact frs_t hR (fw_isSpelled_92  hf) (fun _ h => h) (fun _ h => h)
    ·
      exact frs_t hR (fw_isSpelled_92  hf) (fun _ h => h) (fun _ h => h)
  ·
    obtain ⟨-, hf⟩ := m_chkE hf
    obtain ⟨v1, ev, hf⟩ := m_bndE hf
    clear ev
    rcases m_ifE hf with ⟨-, hf⟩ | ⟨-, hf⟩
    ·
      exact frs_t hR (fw_isSpelled_46 hself6 hf) (fun _ h => h) (fun _ h => h)
    ·
      rcases m_ifE hf with ⟨-, hf⟩ | ⟨-, hf⟩
      ·
        exact frs_t hR (fw_isSpelled_72 hself6 hf) (fun _ h => h) (fun _ h => h)
      ·
        rcases m_ifE hf with ⟨-, hf⟩ | ⟨-, hf⟩
        ·
          exact frs_t hR (fw_isSpelled_72 hself6 hf) (fun _ h => h) (fun _ h => h)
        ·
          rcases m_ifE hf with ⟨-, hf⟩ | ⟨-, hf⟩
          ·
            exact frs_t hR (fw_isSpelled_72 hself6 hf) (fun _ h => h) (fun _ h => h)
          ·
            exact frs_t hR (fw_isSpelled_46 hself6 hf) (fun _ h => h) (fun _ h => h)
theorem fw_isSpelled_6   (n : Nat) : ∀ (y0 : Int32) (y1 : Int32) (y2 : Int32) (y3 : Int32) (I : Nat → Int32) (A : Nat → Nat → Int32) (o : Int32 × MS), f_isSpelled_6  n y0 y1 y2 y3 I A = some o → FrS [] [] I A o.2.1 o.2.2 := by
  induction n with
  | zero => intro y0 y1 y2 y3 I A o hf; cases hf
  | succ n ih => intro y0 y1 y2 y3 I A o hf; exact fw_isSpelled_6s  ih hf
theorem fw_isSpelled_0 {o : Int32 × MS} {x1 : Int32} {x2 : Int32} {x3 : Int32} {I : Nat → Int32} {A : Nat → Nat → Int32}  (hf : f_isSpelled_0 x1 x2 x3 I A = some o) : FrS [] [] I A o.2.1 o.2.2 := by
  have hR : FrS [] [] I A I A := frs_0
  unfold f_isSpelled_0 at hf
  exact frs_t hR (fw_isSpelled_6  mFuel _ _ _ _ _ _ _ hf) (fun _ h => h) (fun _ h => h)
theorem fw_isSpelled {o : Int32 × MS} {x1 : Int32} {x2 : Int32} {x3 : Int32} {I : Nat → Int32} {A : Nat → Nat → Int32} (hf : f_isSpelled x1 x2 x3 I A = some o) : FrS [] [] I A o.2.1 o.2.2 := fw_isSpelled_0  hf
theorem fw_fits_198 {o : Int32 × MS} {self37 : Int32 → Int32 → Int32 → Int32 → Int32 → Int32 → Int32 → (Nat → Int32) → (Nat → Nat → Int32) → Option (Int32 × MS)} {x1 : Int32} {x2 : Int32} {x3 : Int32} {x4 : Int32} {x6 : Int32} {x7 : Int32} {x8 : Int32} {I : Nat → Int32} {A : Nat → Nat → Int32} (hself37 : ∀ (z0 : Int32) (z1 : Int32) (z2 : Int32) (z3 : Int32) (z4 : Int32) (z5 : Int32) (z6 : Int32) (I : Nat → Int32) (A : Nat → Nat → Int32) (o : Int32 × MS), self37 z0 z1 z2 z3 z4 z5 z6 I A = some o → FrS [25, 26, 27, 28, 29, 36] [24, 30, 31, 35] I A o.2.1 o.2.2) (hf : f_fits_198 self37 x1 x2 x3 x4 x6 x7 x8 I A = some o) : FrS [25, 26, 27, 28, 29, 36] [24, 30, 31, 35] I A o.2.1 o.2.2 := by
  have hR : FrS [25, 26, 27, 28, 29, 36] [24, 30, 31, 35] I A I A := frs_0
  unfold f_fits_198 at hf
  obtain ⟨v1, ev, hf⟩ := m_bndE hf
  clear ev
  exact frs_t hR (hself37 _ _ _ _ _ _ _ _ _ _ hf) (fun _ h => h) (fun _ h => h)
theorem fw_fits_168 {o : Int32 × MS} {self37 : Int32 → Int32 → Int32 → Int32 → Int32 → Int32 → Int32 → (Nat → Int32) → (Nat → Nat → Int32) → Option (Int32 × MS)} {x1 : Int32} {x2 : Int32} {x3 : Int32} {x4 : Int32} {x6 : Int32} {x7 : Int32} {x8 : Int32} {I : Nat → Int32} {A : Nat → Nat → Int32} (hself37 : ∀ (z0 : Int32) (z1 : Int32) (z2 : Int32) (z3 : Int32) (z4 : Int32) (z5 : Int32) (z6 : Int32) (I : Nat → Int32) (A : Nat → Nat → Int32) (o : Int32 × MS), self37 z0 z1 z2 z3 z4 z5 z6 I A = some o → FrS [25, 26, 27, 28, 29, 36] [24, 30, 31, 35] I A o.2.1 o.2.2) (hf : f_fits_168 self37 x1 x2 x3 x4 x6 x7 x8 I A = some o) : FrS [25, 26, 27, 28, 29, 36] [24, 30, 31, 35] I A o.2.1 o.2.2 := by
  have hR : FrS [25, 26, 27, 28, 29, 36] [24, 30, 31, 35] I A I A := frs_0
  unfold f_fits_168 at hf
  obtain ⟨v1, ev, hf⟩ := m_bndE hf
  clear ev
  obtain ⟨or2, ho, hf⟩ := m_clE hf
  replace hR := frs_t hR (fw_isSpelled ho) (by decide) (by decide)
  clear ho
  rcases m_ifE hf with ⟨-, hf⟩ | ⟨-, hf⟩
  ·
    exact frs_t hR (fw_fits_198 hself37 hf) (fun _ h => h) (fun _ h => h)
  ·
    obtain ⟨or3, ho, hf⟩ := m_clE hf
    replace hR := frs_t hR (fw_behind ho) (by decide) (by decide)
    clear ho
    obtain ⟨v4, ev, hf⟩ := m_bndE hf
    clear ev
    obtain ⟨-, hf⟩ := m_chkE hf
    obtain ⟨v5, ev, hf⟩ := m_bndE hf
    clear ev
    rcases m_ifE hf with ⟨-, hf⟩ | ⟨-, hf⟩
    ·
      obtain ⟨-, hf⟩ := m_chkE hf
      cases hf
      exact hR
    ·
      exact frs_t hR (fw_fits_198 hself37 hf) (fun _ h => h) (fun _ h => h)
theorem fw_fits_116 {o : Int32 × MS} {self37 : Int32 → Int32 → Int32 → Int32 → Int32 → Int32 → Int32 → (Nat → Int32) → (Nat → Nat → Int32) → Option (Int32 × MS)} {x1 : Int32} {x2 : Int32} {x3 : Int32} {x4 : Int32} {x6 : Int32} {x7 : Int32} {x8 : Int32} {t0 : Int32} {t1 : Int32} {t2 : Int32} {I : Nat → Int32} {A : Nat → Nat → Int32} (hself37 : ∀ (z0 : Int32) (z1 : Int32) (z2 : Int32) (z3 : Int32) (z4 : Int32) (z5 : Int32) (z6 : Int32) (I : Nat → Int32) (A : Nat → Nat → Int32) (o : Int32 × MS), self37 z0 z1 z2 z3 z4 z5 z6 I A = some o → FrS [25, 26, 27, 28, 29, 36] [24, 30, 31, 35] I A o.2.1 o.2.2) (hf : f_fits_116 self37 x1 x2 x3 x4 x6 x7 x8 t0 t1 t2 I A = some o) : FrS [25, 26, 27, 28, 29, 36] [24, 30, 31, 35] I A o.2.1 o.2.2 := by
  have hR : FrS [25, 26, 27, 28, 29, 36] [24, 30, 31, 35] I A I A := frs_0
  unfold f_fits_116 at hf
  obtain ⟨or1, ho, hf⟩ := m_clE hf
  replace hR := frs_t hR (fw_spellMove ho) (by decide) (by decide)
  clear ho
  obtain ⟨or2, ho, hf⟩ := m_clE hf
  replace hR := frs_t hR (fw_isSpelled ho) (by decide) (by decide)
  clear ho
  rcases m_ifE hf with ⟨-, hf⟩ | ⟨-, hf⟩
  ·
    rcases m_ifE hf with ⟨-, hf⟩ | ⟨-, hf⟩
    ·
      rcases m_ifE hf with ⟨-, hf⟩ | ⟨-, hf⟩
      ·
        exact frs_t hR (fw_fits_198 hself37 hf) (fun _ h => h) (fun _ h => h)
      ·
        obtain ⟨v3, ev, hf⟩ := m_bndE hf
        clear ev
        obtain ⟨-, hf⟩ := m_chkE hf
        obtain ⟨v4, ev, hf⟩ := m_bndE hf
        clear ev
        rcases m_ifE hf with ⟨-, hf⟩ | ⟨-, hf⟩
        ·
          exact frs_t hR (fw_fits_168 hself37 hf) (fun _ h => h) (fun _ h => h)
        ·
          obtain ⟨v5, ev, hf⟩ := m_bndE hf
          clear ev
          obtain ⟨-, hf⟩ := m_chkE hf
          obtain ⟨v6, ev, hf⟩ := m_bndE hf
          clear ev
          rcases m_ifE hf with ⟨-, hf⟩ | ⟨-, hf⟩
          ·
            exact frs_t hR (fw_fits_168 hself37 hf) (fun _ h => h) (fun _ h => h)
          ·
            exact frs_t hR (fw_fits_198 hself37 hf) (fun _ h => h) (fun _ h => h)
    ·
      exact frs_t hR (fw_fits_198 hself37 hf) (fun _ h => h) (fun _ h => h)
  ·
    obtain ⟨-, hf⟩ := m_chkE hf
    cases hf
    exact hR
theorem fw_fits_115 {o : Int32 × MS} {self37 : Int32 → Int32 → Int32 → Int32 → Int32 → Int32 → Int32 → (Nat → Int32) → (Nat → Nat → Int32) → Option (Int32 × MS)} {x1 : Int32} {x2 : Int32} {x3 : Int32} {x4 : Int32} {x6 : Int32} {x7 : Int32} {x8 : Int32} {t0 : Int32} {t1 : Int32} {I : Nat → Int32} {A : Nat → Nat → Int32} (hself37 : ∀ (z0 : Int32) (z1 : Int32) (z2 : Int32) (z3 : Int32) (z4 : Int32) (z5 : Int32) (z6 : Int32) (I : Nat → Int32) (A : Nat → Nat → Int32) (o : Int32 × MS), self37 z0 z1 z2 z3 z4 z5 z6 I A = some o → FrS [25, 26, 27, 28, 29, 36] [24, 30, 31, 35] I A o.2.1 o.2.2) (hf : f_fits_115 self37 x1 x2 x3 x4 x6 x7 x8 t0 t1 I A = some o) : FrS [25, 26, 27, 28, 29, 36] [24, 30, 31, 35] I A o.2.1 o.2.2 := by
  have hR : FrS [25, 26, 27, 28, 29, 36] [24, 30, 31, 35] I A I A := frs_0
  unfold f_fits_115 at hf
  exact frs_t hR (fw_fits_116 hself37 hf) (fun _ h => h) (fun _ h => h)
theorem fw_fits_90 {o : Int32 × MS} {self37 : Int32 → Int32 → Int32 → Int32 → Int32 → Int32 → Int32 → (Nat → Int32) → (Nat → Nat → Int32) → Option (Int32 × MS)} {x1 : Int32} {x2 : Int32} {x3 : Int32} {x4 : Int32} {x6 : Int32} {x7 : Int32} {x8 : Int32} {t0 : Int32} {I : Nat → Int32} {A : Nat → Nat → Int32} (hself37 : ∀ (z0 : Int32) (z1 : Int32) (z2 : Int32) (z3 : Int32) (z4 : Int32) (z5 : Int32) (z6 : Int32) (I : Nat → Int32) (A : Nat → Nat → Int32) (o : Int32 × MS), self37 z0 z1 z2 z3 z4 z5 z6 I A = some o → FrS [25, 26, 27, 28, 29, 36] [24, 30, 31, 35] I A o.2.1 o.2.2) (hf : f_fits_90 self37 x1 x2 x3 x4 x6 x7 x8 t0 I A = some o) : FrS [25, 26, 27, 28, 29, 36] [24, 30, 31, 35] I A o.2.1 o.2.2 := by
  have hR : FrS [25, 26, 27, 28, 29, 36] [24, 30, 31, 35] I A I A := frs_0
  unfold f_fits_90 at hf
  rcases m_ifE hf with ⟨-, hf⟩ | ⟨-, hf⟩
  ·
    exact frs_t hR (fw_fits_198 hself37 hf) (fun _ h => h) (fun _ h => h)
  ·
    rcases m_ifE hf with ⟨-, hf⟩ | ⟨-, hf⟩
    ·
      exact frs_t hR (fw_fits_115 hself37 hf) (fun _ h => h) (fun _ h => h)
    ·
      rcases m_ifE hf with ⟨-, hf⟩ | ⟨-, hf⟩
      ·
        exact frs_t hR (fw_fits_116 hself37 hf) (fun _ h => h) (fun _ h => h)
      ·
        exact frs_t hR (fw_fits_115 hself37 hf) (fun _ h => h) (fun _ h => h)
theorem fw_fits_85 {o : Int32 × MS} {self37 : Int32 → Int32 → Int32 → Int32 → Int32 → Int32 → Int32 → (Nat → Int32) → (Nat → Nat → Int32) → Option (Int32 × MS)} {x1 : Int32} {x2 : Int32} {x3 : Int32} {x4 : Int32} {x6 : Int32} {x7 : Int32} {x8 : Int32} {I : Nat → Int32} {A : Nat → Nat → Int32} (hself37 : ∀ (z0 : Int32) (z1 : Int32) (z2 : Int32) (z3 : Int32) (z4 : Int32) (z5 : Int32) (z6 : Int32) (I : Nat → Int32) (A : Nat → Nat → Int32) (o : Int32 × MS), self37 z0 z1 z2 z3 z4 z5 z6 I A = some o → FrS [25, 26, 27, 28, 29, 36] [24, 30, 31, 35] I A o.2.1 o.2.2) (hf : f_fits_85 self37 x1 x2 x3 x4 x6 x7 x8 I A = some o) : FrS [25, 26, 27, 28, 29, 36] [24, 30, 31, 35] I A o.2.1 o.2.2 := by
  have hR : FrS [25, 26, 27, 28, 29, 36] [24, 30, 31, 35] I A I A := frs_0
  unfold f_fits_85 at hf
  exact frs_t hR (fw_fits_90 hself37 hf) (fun _ h => h) (fun _ h => h)
theorem fw_fits_89 {o : Int32 × MS} {self37 : Int32 → Int32 → Int32 → Int32 → Int32 → Int32 → Int32 → (Nat → Int32) → (Nat → Nat → Int32) → Option (Int32 × MS)} {x1 : Int32} {x2 : Int32} {x3 : Int32} {x4 : Int32} {x6 : Int32} {x7 : Int32} {x8 : Int32} {I : Nat → Int32} {A : Nat → Nat → Int32} (hself37 : ∀ (z0 : Int32) (z1 : Int32) (z2 : Int32) (z3 : Int32) (z4 : Int32) (z5 : Int32) (z6 : Int32) (I : Nat → Int32) (A : Nat → Nat → Int32) (o : Int32 × MS), self37 z0 z1 z2 z3 z4 z5 z6 I A = some o → FrS [25, 26, 27, 28, 29, 36] [24, 30, 31, 35] I A o.2.1 o.2.2) (hf : f_fits_89 self37 x1 x2 x3 x4 x6 x7 x8 I A = some o) : FrS [25, 26, 27, 28, 29, 36] [24, 30, 31, 35] I A o.2.1 o.2.2 := by
  have hR : FrS [25, 26, 27, 28, 29, 36] [24, 30, 31, 35] I A I A := frs_0
  unfold f_fits_89 at hf
  exact frs_t hR (fw_fits_90 hself37 hf) (fun _ h => h) (fun _ h => h)
theorem fw_fits_37s {o : Int32 × MS} {self37 : Int32 → Int32 → Int32 → Int32 → Int32 → Int32 → Int32 → (Nat → Int32) → (Nat → Nat → Int32) → Option (Int32 × MS)} {x1 : Int32} {x2 : Int32} {x3 : Int32} {x4 : Int32} {x6 : Int32} {x7 : Int32} {x8 : Int32} {I : Nat → Int32} {A : Nat → Nat → Int32} (hself37 : ∀ (z0 : Int32) (z1 : Int32) (z2 : Int32) (z3 : Int32) (z4 : Int32) (z5 : Int32) (z6 : Int32) (I : Nat → Int32) (A : Nat → Nat → Int32) (o : Int32 × MS), self37 z0 z1 z2 z3 z4 z5 z6 I A = some o → FrS [25, 26, 27, 28, 29, 36] [24, 30, 31, 35] I A o.2.1 o.2.2) (hf : f_fits_37s self37 x1 x2 x3 x4 x6 x7 x8 I A = some o) : FrS [25, 26, 27, 28, 29, 36] [24, 30, 31, 35] I A o.2.1 o.2.2 := by
  have hR : FrS [25, 26, 27, 28, 29, 36] [24, 30, 31, 35] I A I A := frs_0
  unfold f_fits_37s at hf
  rcases m_ifE hf with ⟨-, hf⟩ | ⟨-, hf⟩
  ·
    obtain ⟨-, hf⟩ := m_chkE hf
    cases hf
    exact hR
  ·
    obtain ⟨or1, ho, hf⟩ := m_clE hf
    replace hR := frs_t hR (fw_isCastling ho) (by decide) (by decide)
    clear ho
    rcases m_ifE hf with ⟨-, hf⟩ | ⟨-, hf⟩
    ·
      rcases m_ifE hf with ⟨-, hf⟩ | ⟨-, hf⟩
      ·
        exact frs_t hR (fw_fits_85 hself37 hf) (fun _ h => h) (fun _ h => h)
      ·
        rcases m_ifE hf with ⟨-, hf⟩ | ⟨-, hf⟩
        ·
          exact frs_t hR (fw_fits_85 hself37 hf) (fun _ h => h) (fun _ h => h)
        ·
          rcases m_ifE hf with ⟨-, hf⟩ | ⟨-, hf⟩
          ·
            rcases m_ifE hf with ⟨-, hf⟩ | ⟨-, hf⟩
            ·
              exact frs_t hR (fw_fits_85 hself37 hf) (fun _ h => h) (fun _ h => h)
            ·
              exact frs_t hR (fw_fits_89 hself37 hf) (fun _ h => h) (fun _ h => h)
          ·
            exact frs_t hR (fw_fits_89 hself37 hf) (fun _ h => h) (fun _ h => h)
    ·
      rcases m_ifE hf with ⟨-, hf⟩ | ⟨-, hf⟩
      ·
        exact frs_t hR (fw_fits_90 hself37 hf) (fun _ h => h) (fun _ h => h)
      ·
        exact frs_t hR (fw_fits_90 hself37 hf) (fun _ h => h) (fun _ h => h)
theorem fw_fits_37   (n : Nat) : ∀ (y0 : Int32) (y1 : Int32) (y2 : Int32) (y3 : Int32) (y4 : Int32) (y5 : Int32) (y6 : Int32) (I : Nat → Int32) (A : Nat → Nat → Int32) (o : Int32 × MS), f_fits_37  n y0 y1 y2 y3 y4 y5 y6 I A = some o → FrS [25, 26, 27, 28, 29, 36] [24, 30, 31, 35] I A o.2.1 o.2.2 := by
  induction n with
  | zero => intro y0 y1 y2 y3 y4 y5 y6 I A o hf; cases hf
  | succ n ih => intro y0 y1 y2 y3 y4 y5 y6 I A o hf; exact fw_fits_37s  ih hf
theorem fw_fits_25 {o : Int32 × MS} {x1 : Int32} {x2 : Int32} {x3 : Int32} {x4 : Int32} {t0 : Int32} {I : Nat → Int32} {A : Nat → Nat → Int32}  (hf : f_fits_25 x1 x2 x3 x4 t0 I A = some o) : FrS [25, 26, 27, 28, 29, 36] [24, 30, 31, 35] I A o.2.1 o.2.2 := by
  have hR : FrS [25, 26, 27, 28, 29, 36] [24, 30, 31, 35] I A I A := frs_0
  unfold f_fits_25 at hf
  obtain ⟨or1, ho, hf⟩ := m_clE hf
  replace hR := frs_t hR (fw_isTaking ho) (by decide) (by decide)
  clear ho
  exact frs_t hR (fw_fits_37  mFuel _ _ _ _ _ _ _ _ _ _ hf) (fun _ h => h) (fun _ h => h)
theorem fw_fits_0 {o : Int32 × MS} {x1 : Int32} {x2 : Int32} {x3 : Int32} {x4 : Int32} {I : Nat → Int32} {A : Nat → Nat → Int32}  (hf : f_fits_0 x1 x2 x3 x4 I A = some o) : FrS [25, 26, 27, 28, 29, 36] [24, 30, 31, 35] I A o.2.1 o.2.2 := by
  have hR : FrS [25, 26, 27, 28, 29, 36] [24, 30, 31, 35] I A I A := frs_0
  unfold f_fits_0 at hf
  obtain ⟨v1, ev, hf⟩ := m_bndE hf
  clear ev
  obtain ⟨-, hf⟩ := m_chkE hf
  obtain ⟨v2, ev, hf⟩ := m_bndE hf
  clear ev
  obtain ⟨or3, ho, hf⟩ := m_clE hf
  replace hR := frs_t hR (fw_kind ho) (by decide) (by decide)
  clear ho
  rcases m_ifE hf with ⟨-, hf⟩ | ⟨-, hf⟩
  ·
    exact frs_t hR (fw_fits_25  hf) (fun _ h => h) (fun _ h => h)
  ·
    exact frs_t hR (fw_fits_25  hf) (fun _ h => h) (fun _ h => h)
theorem fw_fits {o : Int32 × MS} {x1 : Int32} {x2 : Int32} {x3 : Int32} {x4 : Int32} {I : Nat → Int32} {A : Nat → Nat → Int32} (hf : f_fits x1 x2 x3 x4 I A = some o) : FrS [25, 26, 27, 28, 29, 36] [24, 30, 31, 35] I A o.2.1 o.2.2 := fw_fits_0  hf
theorem fw_understood_122 {o : Int32 × MS} {t0 : Int32} {I : Nat → Int32} {A : Nat → Nat → Int32}  (hf : f_understood_122 t0 I A = some o) : FrS [25, 26, 27, 28, 29, 36] [24, 30, 31, 35] I A o.2.1 o.2.2 := by
  have hR : FrS [25, 26, 27, 28, 29, 36] [24, 30, 31, 35] I A I A := frs_0
  unfold f_understood_122 at hf
  cases hf
  exact hR
theorem fw_understood_104 {o : Int32 × MS} {self71 : Int32 → Int32 → Int32 → Int32 → (Nat → Int32) → (Nat → Nat → Int32) → Option (Int32 × MS)} {x1 : Int32} {x2 : Int32} {x5 : Int32} {t0 : Int32} {I : Nat → Int32} {A : Nat → Nat → Int32} (hself71 : ∀ (z0 : Int32) (z1 : Int32) (z2 : Int32) (z3 : Int32) (I : Nat → Int32) (A : Nat → Nat → Int32) (o : Int32 × MS), self71 z0 z1 z2 z3 I A = some o → FrS [25, 26, 27, 28, 29, 36] [24, 30, 31, 35] I A o.2.1 o.2.2) (hf : f_understood_104 self71 x1 x2 x5 t0 I A = some o) : FrS [25, 26, 27, 28, 29, 36] [24, 30, 31, 35] I A o.2.1 o.2.2 := by
  have hR : FrS [25, 26, 27, 28, 29, 36] [24, 30, 31, 35] I A I A := frs_0
  unfold f_understood_104 at hf
  obtain ⟨v1, ev, hf⟩ := m_bndE hf
  clear ev
  exact frs_t hR (hself71 _ _ _ _ _ _ _ hf) (fun _ h => h) (fun _ h => h)
theorem fw_understood_71s {o : Int32 × MS} {self71 : Int32 → Int32 → Int32 → Int32 → (Nat → Int32) → (Nat → Nat → Int32) → Option (Int32 × MS)} {x1 : Int32} {x2 : Int32} {x3 : Int32} {x5 : Int32} {I : Nat → Int32} {A : Nat → Nat → Int32} (hself71 : ∀ (z0 : Int32) (z1 : Int32) (z2 : Int32) (z3 : Int32) (I : Nat → Int32) (A : Nat → Nat → Int32) (o : Int32 × MS), self71 z0 z1 z2 z3 I A = some o → FrS [25, 26, 27, 28, 29, 36] [24, 30, 31, 35] I A o.2.1 o.2.2) (hf : f_understood_71s self71 x1 x2 x3 x5 I A = some o) : FrS [25, 26, 27, 28, 29, 36] [24, 30, 31, 35] I A o.2.1 o.2.2 := by
  have hR : FrS [25, 26, 27, 28, 29, 36] [24, 30, 31, 35] I A I A := frs_0
  unfold f_understood_71s at hf
  rcases m_ifE hf with ⟨-, hf⟩ | ⟨-, hf⟩
  ·
    rcases m_ifE hf with ⟨-, hf⟩ | ⟨-, hf⟩
    ·
      exact frs_t hR (fw_understood_122  hf) (fun _ h => h) (fun _ h => h)
    ·
      exact frs_t hR (fw_understood_122  hf) (fun _ h => h) (fun _ h => h)
  ·
    obtain ⟨-, hf⟩ := m_chkE hf
    obtain ⟨v1, ev, hf⟩ := m_bndE hf
    clear ev
    obtain ⟨or2, ho, hf⟩ := m_clE hf
    replace hR := frs_t hR (fw_fits ho) (by decide) (by decide)
    clear ho
    rcases m_ifE hf with ⟨-, hf⟩ | ⟨-, hf⟩
    ·
      exact frs_t hR (fw_understood_104 hself71 hf) (fun _ h => h) (fun _ h => h)
    ·
      obtain ⟨v3, ev, hf⟩ := m_bndE hf
      clear ev
      exact frs_t hR (fw_understood_104 hself71 hf) (fun _ h => h) (fun _ h => h)
theorem fw_understood_71   (n : Nat) : ∀ (y0 : Int32) (y1 : Int32) (y2 : Int32) (y3 : Int32) (I : Nat → Int32) (A : Nat → Nat → Int32) (o : Int32 × MS), f_understood_71  n y0 y1 y2 y3 I A = some o → FrS [25, 26, 27, 28, 29, 36] [24, 30, 31, 35] I A o.2.1 o.2.2 := by
  induction n with
  | zero => intro y0 y1 y2 y3 I A o hf; cases hf
  | succ n ih => intro y0 y1 y2 y3 I A o hf; exact fw_understood_71s  ih hf
theorem fw_understood_67 {o : Int32 × MS} {t0 : Int32} {I : Nat → Int32} {A : Nat → Nat → Int32}  (hf : f_understood_67 t0 I A = some o) : FrS [25, 26, 27, 28, 29, 36] [24, 30, 31, 35] I A o.2.1 o.2.2 := by
  have hR : FrS [25, 26, 27, 28, 29, 36] [24, 30, 31, 35] I A I A := frs_0
  unfold f_understood_67 at hf
  cases hf
  exact hR
theorem fw_understood_46 {o : Int32 × MS} {self8 : Int32 → Int32 → Int32 → Int32 → Int32 → (Nat → Int32) → (Nat → Nat → Int32) → Option (Int32 × MS)} {x1 : Int32} {x2 : Int32} {x3 : Int32} {x4 : Int32} {x5 : Int32} {I : Nat → Int32} {A : Nat → Nat → Int32} (hself8 : ∀ (z0 : Int32) (z1 : Int32) (z2 : Int32) (z3 : Int32) (z4 : Int32) (I : Nat → Int32) (A : Nat → Nat → Int32) (o : Int32 × MS), self8 z0 z1 z2 z3 z4 I A = some o → FrS [25, 26, 27, 28, 29, 36] [24, 30, 31, 35] I A o.2.1 o.2.2) (hf : f_understood_46 self8 x1 x2 x3 x4 x5 I A = some o) : FrS [25, 26, 27, 28, 29, 36] [24, 30, 31, 35] I A o.2.1 o.2.2 := by
  have hR : FrS [25, 26, 27, 28, 29, 36] [24, 30, 31, 35] I A I A := frs_0
  unfold f_understood_46 at hf
  obtain ⟨v1, ev, hf⟩ := m_bndE hf
  clear ev
  exact frs_t hR (hself8 _ _ _ _ _ _ _ _ hf) (fun _ h => h) (fun _ h => h)
theorem fw_understood_8s {o : Int32 × MS} {self8 : Int32 → Int32 → Int32 → Int32 → Int32 → (Nat → Int32) → (Nat → Nat → Int32) → Option (Int32 × MS)} {x1 : Int32} {x2 : Int32} {x3 : Int32} {x4 : Int32} {x5 : Int32} {I : Nat → Int32} {A : Nat → Nat → Int32} (hself8 : ∀ (z0 : Int32) (z1 : Int32) (z2 : Int32) (z3 : Int32) (z4 : Int32) (I : Nat → Int32) (A : Nat → Nat → Int32) (o : Int32 × MS), self8 z0 z1 z2 z3 z4 I A = some o → FrS [25, 26, 27, 28, 29, 36] [24, 30, 31, 35] I A o.2.1 o.2.2) (hf : f_understood_8s self8 x1 x2 x3 x4 x5 I A = some o) : FrS [25, 26, 27, 28, 29, 36] [24, 30, 31, 35] I A o.2.1 o.2.2 := by
  have hR : FrS [25, 26, 27, 28, 29, 36] [24, 30, 31, 35] I A I A := frs_0
  unfold f_understood_8s at hf
  rcases m_ifE hf with ⟨-, hf⟩ | ⟨-, hf⟩
  ·
    rcases m_ifE hf with ⟨-, hf⟩ | ⟨-, hf⟩
    ·
      exact frs_t hR (fw_understood_71  mFuel _ _ _ _ _ _ _ hf) (fun _ h => h) (fun _ h => h)
    ·
      rcases m_ifE hf with ⟨-, hf⟩ | ⟨-, hf⟩
      ·
        exact frs_t hR (fw_understood_67  hf) (fun _ h => h) (fun _ h => h)
      ·
        exact frs_t hR (fw_understood_67  hf) (fun _ h => h) (fun _ h => h)
  ·
    obtain ⟨-, hf⟩ := m_chkE hf
    obtain ⟨v1, ev, hf⟩ := m_bndE hf
    clear ev
    obtain ⟨or2, ho, hf⟩ := m_clE hf
    replace hR := frs_t hR (fw_fits ho) (by decide) (by decide)
    clear ho
    rcases m_ifE hf with ⟨-, hf⟩ | ⟨-, hf⟩
    ·
      exact frs_t hR (fw_understood_46 hself8 hf) (fun _ h => h) (fun _ h => h)
    ·
      obtain ⟨v3, ev, hf⟩ := m_bndE hf
      clear ev
      obtain ⟨-, hf⟩ := m_chkE hf
      obtain ⟨v4, ev, hf⟩ := m_bndE hf
      clear ev
      exact frs_t hR (fw_understood_46 hself8 hf) (fun _ h => h) (fun _ h => h)
theorem fw_understood_8   (n : Nat) : ∀ (y0 : Int32) (y1 : Int32) (y2 : Int32) (y3 : Int32) (y4 : Int32) (I : Nat → Int32) (A : Nat → Nat → Int32) (o : Int32 × MS), f_understood_8  n y0 y1 y2 y3 y4 I A = some o → FrS [25, 26, 27, 28, 29, 36] [24, 30, 31, 35] I A o.2.1 o.2.2 := by
  induction n with
  | zero => intro y0 y1 y2 y3 y4 I A o hf; cases hf
  | succ n ih => intro y0 y1 y2 y3 y4 I A o hf; exact fw_understood_8s  ih hf
theorem fw_understood_0 {o : Int32 × MS} {x1 : Int32} {x2 : Int32} {I : Nat → Int32} {A : Nat → Nat → Int32}  (hf : f_understood_0 x1 x2 I A = some o) : FrS [25, 26, 27, 28, 29, 36] [24, 30, 31, 35] I A o.2.1 o.2.2 := by
  have hR : FrS [25, 26, 27, 28, 29, 36] [24, 30, 31, 35] I A I A := frs_0
  unfold f_understood_0 at hf
  exact frs_t hR (fw_understood_8  mFuel _ _ _ _ _ _ _ _ hf) (fun _ h => h) (fun _ h => h)
theorem fw_understood {o : Int32 × MS} {x1 : Int32} {x2 : Int32} {I : Nat → Int32} {A : Nat → Nat → Int32} (hf : f_understood x1 x2 I A = some o) : FrS [25, 26, 27, 28, 29, 36] [24, 30, 31, 35] I A o.2.1 o.2.2 := fw_understood_0  hf
theorem fw_sign_24 {o : Int32 × MS} {t0 : Int32} {I : Nat → Int32} {A : Nat → Nat → Int32}  (hf : f_sign_24 t0 I A = some o) : FrS [] [] I A o.2.1 o.2.2 := by
  have hR : FrS [] [] I A I A := frs_0
  unfold f_sign_24 at hf
  obtain ⟨-, hf⟩ := m_chkE hf
  cases hf
  exact hR
theorem fw_sign_0 {o : Int32 × MS} {I : Nat → Int32} {A : Nat → Nat → Int32}  (hf : f_sign_0 I A = some o) : FrS [] [] I A o.2.1 o.2.2 := by
  have hR : FrS [] [] I A I A := frs_0
  unfold f_sign_0 at hf
  rcases m_ifE hf with ⟨-, hf⟩ | ⟨-, hf⟩
  ·
    exact frs_t hR (fw_sign_24  hf) (fun _ h => h) (fun _ h => h)
  ·
    obtain ⟨-, hf⟩ := m_chkE hf
    obtain ⟨v1, ev, hf⟩ := m_bndE hf
    clear ev
    exact frs_t hR (fw_sign_24  hf) (fun _ h => h) (fun _ h => h)
theorem fw_sign {o : Int32 × MS}  {I : Nat → Int32} {A : Nat → Nat → Int32} (hf : f_sign  I A = some o) : FrS [] [] I A o.2.1 o.2.2 := fw_sign_0  hf
theorem fw_pass_13 {o : Int32 × MS} {t0 : Int32} {I : Nat → Int32} {A : Nat → Nat → Int32}  (hf : f_pass_13 t0 I A = some o) : FrS [38] [] I A o.2.1 o.2.2 := by
  have hR : FrS [38] [] I A I A := frs_0
  unfold f_pass_13 at hf
  obtain ⟨v1, ev, hf⟩ := m_bndE hf
  clear ev
  obtain ⟨I2, ev, hf⟩ := m_bndE hf
  replace hR := frs_I hR (by decide) ev
  clear ev
  obtain ⟨-, hf⟩ := m_chkE hf
  cases hf
  exact hR
theorem fw_pass_0 {o : Int32 × MS} {x1 : Int32} {I : Nat → Int32} {A : Nat → Nat → Int32}  (hf : f_pass_0 x1 I A = some o) : FrS [38] [] I A o.2.1 o.2.2 := by
  have hR : FrS [38] [] I A I A := frs_0
  unfold f_pass_0 at hf
  obtain ⟨or1, ho, hf⟩ := m_clE hf
  replace hR := frs_t hR (fw_sign ho) (by decide) (by decide)
  clear ho
  rcases m_ifE hf with ⟨-, hf⟩ | ⟨-, hf⟩
  ·
    exact frs_t hR (fw_pass_13  hf) (fun _ h => h) (fun _ h => h)
  ·
    exact frs_t hR (fw_pass_13  hf) (fun _ h => h) (fun _ h => h)
theorem fw_pass {o : Int32 × MS} {x1 : Int32} {I : Nat → Int32} {A : Nat → Nat → Int32} (hf : f_pass x1 I A = some o) : FrS [38] [] I A o.2.1 o.2.2 := fw_pass_0  hf
theorem fw_manOf_135 {o : Int32 × MS} {rec : Int32 → (Nat → Int32) → (Nat → Nat → Int32) → Option (Int32 × MS)} {t0 : Int32} {I : Nat → Int32} {A : Nat → Nat → Int32} (hrec : ∀ (z0 : Int32) (I : Nat → Int32) (A : Nat → Nat → Int32) (o : Int32 × MS), rec z0 I A = some o → FrS [] [] I A o.2.1 o.2.2) (hf : f_manOf_135 rec t0 I A = some o) : FrS [] [] I A o.2.1 o.2.2 := by
  have hR : FrS [] [] I A I A := frs_0
  unfold f_manOf_135 at hf
  cases hf
  exact hR
theorem fw_manOf_134 {o : Int32 × MS} {rec : Int32 → (Nat → Int32) → (Nat → Nat → Int32) → Option (Int32 × MS)} {I : Nat → Int32} {A : Nat → Nat → Int32} (hrec : ∀ (z0 : Int32) (I : Nat → Int32) (A : Nat → Nat → Int32) (o : Int32 × MS), rec z0 I A = some o → FrS [] [] I A o.2.1 o.2.2) (hf : f_manOf_134 rec I A = some o) : FrS [] [] I A o.2.1 o.2.2 := by
  have hR : FrS [] [] I A I A := frs_0
  unfold f_manOf_134 at hf
  exact frs_t hR (fw_manOf_135 hrec hf) (fun _ h => h) (fun _ h => h)
theorem fw_manOf_0 {o : Int32 × MS} {rec : Int32 → (Nat → Int32) → (Nat → Nat → Int32) → Option (Int32 × MS)} {x0 : Int32} {I : Nat → Int32} {A : Nat → Nat → Int32} (hrec : ∀ (z0 : Int32) (I : Nat → Int32) (A : Nat → Nat → Int32) (o : Int32 × MS), rec z0 I A = some o → FrS [] [] I A o.2.1 o.2.2) (hf : f_manOf_0 rec x0 I A = some o) : FrS [] [] I A o.2.1 o.2.2 := by
  have hR : FrS [] [] I A I A := frs_0
  unfold f_manOf_0 at hf
  rcases m_ifE hf with ⟨-, hf⟩ | ⟨-, hf⟩
  ·
    cases hf
    exact hR
  ·
    rcases m_ifE hf with ⟨-, hf⟩ | ⟨-, hf⟩
    ·
      cases hf
      exact hR
    ·
      rcases m_ifE hf with ⟨-, hf⟩ | ⟨-, hf⟩
      ·
        cases hf
        exact hR
      ·
        rcases m_ifE hf with ⟨-, hf⟩ | ⟨-, hf⟩
        ·
          cases hf
          exact hR
        ·
          rcases m_ifE hf with ⟨-, hf⟩ | ⟨-, hf⟩
          ·
            cases hf
            exact hR
          ·
            rcases m_ifE hf with ⟨-, hf⟩ | ⟨-, hf⟩
            ·
              cases hf
              exact hR
            ·
              rcases m_ifE hf with ⟨-, hf⟩ | ⟨-, hf⟩
              ·
                exact frs_t hR (fw_manOf_134 hrec hf) (fun _ h => h) (fun _ h => h)
              ·
                rcases m_ifE hf with ⟨-, hf⟩ | ⟨-, hf⟩
                ·
                  exact frs_t hR (fw_manOf_134 hrec hf) (fun _ h => h) (fun _ h => h)
                ·
                  obtain ⟨v1, ev, hf⟩ := m_bndE hf
                  clear ev
                  obtain ⟨v2, ev, hf⟩ := m_bndE hf
                  clear ev
                  obtain ⟨or3, ho, hf⟩ := m_clE hf
                  replace hR := frs_t hR (hrec _ _ _ _ ho) (by decide) (by decide)
                  clear ho
                  rcases m_ifE hf with ⟨-, hf⟩ | ⟨-, hf⟩
                  ·
                    exact frs_t hR (fw_manOf_134 hrec hf) (fun _ h => h) (fun _ h => h)
                  ·
                    obtain ⟨v4, ev, hf⟩ := m_bndE hf
                    clear ev
                    obtain ⟨v5, ev, hf⟩ := m_bndE hf
                    clear ev
                    obtain ⟨or6, ho, hf⟩ := m_clE hf
                    replace hR := frs_t hR (hrec _ _ _ _ ho) (by decide) (by decide)
                    clear ho
                    obtain ⟨v7, ev, hf⟩ := m_bndE hf
                    clear ev
                    exact frs_t hR (fw_manOf_135 hrec hf) (fun _ h => h) (fun _ h => h)
theorem fwr_manOf (n : Nat) : ∀ (x0 : Int32) (I : Nat → Int32) (A : Nat → Nat → Int32) (o : Int32 × MS), fr_manOf n x0 I A = some o → FrS [] [] I A o.2.1 o.2.2 := by
  induction n with
  | zero => intro x0 I A o hf; cases hf
  | succ n ih => intro x0 I A o hf; exact fw_manOf_0 ih hf
theorem fw_manOf {o : Int32 × MS} {x0 : Int32} {I : Nat → Int32} {A : Nat → Nat → Int32} (hf : f_manOf x0 I A = some o) : FrS [] [] I A o.2.1 o.2.2 := fwr_manOf 3 _ I A o hf
theorem fw_readRank_106 {o : Int32 × MS} {t0 : Int32} {I : Nat → Int32} {A : Nat → Nat → Int32}  (hf : f_readRank_106 t0 I A = some o) : FrS [38] [24] I A o.2.1 o.2.2 := by
  have hR : FrS [38] [24] I A I A := frs_0
  unfold f_readRank_106 at hf
  obtain ⟨-, hf⟩ := m_chkE hf
  cases hf
  exact hR
theorem fw_readRank_82 {o : Int32 × MS} {self4 : Int32 → Int32 → Int32 → (Nat → Int32) → (Nat → Nat → Int32) → Option (Int32 × MS)} {x1 : Int32} {x2 : Int32} {x3 : Int32} {I : Nat → Int32} {A : Nat → Nat → Int32} (hself4 : ∀ (z0 : Int32) (z1 : Int32) (z2 : Int32) (I : Nat → Int32) (A : Nat → Nat → Int32) (o : Int32 × MS), self4 z0 z1 z2 I A = some o → FrS [38] [24] I A o.2.1 o.2.2) (hf : f_readRank_82 self4 x1 x2 x3 I A = some o) : FrS [38] [24] I A o.2.1 o.2.2 := by
  have hR : FrS [38] [24] I A I A := frs_0
  unfold f_readRank_82 at hf
  obtain ⟨v1, ev, hf⟩ := m_bndE hf
  clear ev
  obtain ⟨I2, ev, hf⟩ := m_bndE hf
  replace hR := frs_I hR (by decide) ev
  clear ev
  exact frs_t hR (hself4 _ _ _ _ _ _ hf) (fun _ h => h) (fun _ h => h)
theorem fw_readRank_54 {o : Int32 × MS} {self4 : Int32 → Int32 → Int32 → (Nat → Int32) → (Nat → Nat → Int32) → Option (Int32 × MS)} {x1 : Int32} {x2 : Int32} {x5 : Int32} {I : Nat → Int32} {A : Nat → Nat → Int32} (hself4 : ∀ (z0 : Int32) (z1 : Int32) (z2 : Int32) (I : Nat → Int32) (A : Nat → Nat → Int32) (o : Int32 × MS), self4 z0 z1 z2 I A = some o → FrS [38] [24] I A o.2.1 o.2.2) (hf : f_readRank_54 self4 x1 x2 x5 I A = some o) : FrS [38] [24] I A o.2.1 o.2.2 := by
  have hR : FrS [38] [24] I A I A := frs_0
  unfold f_readRank_54 at hf
  rcases m_ifE hf with ⟨-, hf⟩ | ⟨-, hf⟩
  ·
    obtain ⟨-, hf⟩ := m_chkE hf
    cases hf
    exact hR
  ·
    obtain ⟨v1, ev, hf⟩ := m_bndE hf
    clear ev
    obtain ⟨v2, ev, hf⟩ := m_bndE hf
    clear ev
    obtain ⟨-, hf⟩ := m_chkE hf
    obtain ⟨A3, ev, hf⟩ := m_bndE hf
    replace hR := frs_A hR (by decide) ev
    clear ev
    obtain ⟨v4, ev, hf⟩ := m_bndE hf
    clear ev
    exact frs_t hR (fw_readRank_82 hself4 hf) (fun _ h => h) (fun _ h => h)
theorem fw_readRank_4s {o : Int32 × MS} {self4 : Int32 → Int32 → Int32 → (Nat → Int32) → (Nat → Nat → Int32) → Option (Int32 × MS)} {x1 : Int32} {x2 : Int32} {x3 : Int32} {I : Nat → Int32} {A : Nat → Nat → Int32} (hself4 : ∀ (z0 : Int32) (z1 : Int32) (z2 : Int32) (I : Nat → Int32) (A : Nat → Nat → Int32) (o : Int32 × MS), self4 z0 z1 z2 I A = some o → FrS [38] [24] I A o.2.1 o.2.2) (hf : f_readRank_4s self4 x1 x2 x3 I A = some o) : FrS [38] [24] I A o.2.1 o.2.2 := by
  have hR : FrS [38] [24] I A I A := frs_0
  unfold f_readRank_4s at hf
  rcases m_ifE hf with ⟨-, hf⟩ | ⟨-, hf⟩
  ·
    rcases m_ifE hf with ⟨-, hf⟩ | ⟨-, hf⟩
    ·
      exact frs_t hR (fw_readRank_106  hf) (fun _ h => h) (fun _ h => h)
    ·
      exact frs_t hR (fw_readRank_106  hf) (fun _ h => h) (fun _ h => h)
  ·
    obtain ⟨or1, ho, hf⟩ := m_clE hf
    replace hR := frs_t hR (fw_sign ho) (by decide) (by decide)
    clear ho
    obtain ⟨or2, ho, hf⟩ := m_clE hf
    replace hR := frs_t hR (fw_manOf ho) (by decide) (by decide)
    clear ho
    rcases m_ifE hf with ⟨-, hf⟩ | ⟨-, hf⟩
    ·
      exact frs_t hR (fw_readRank_54 hself4 hf) (fun _ h => h) (fun _ h => h)
    ·
      rcases m_ifE hf with ⟨-, hf⟩ | ⟨-, hf⟩
      ·
        exact frs_t hR (fw_readRank_54 hself4 hf) (fun _ h => h) (fun _ h => h)
      ·
        rcases m_ifE hf with ⟨-, hf⟩ | ⟨-, hf⟩
        ·
          obtain ⟨v3, ev, hf⟩ := m_bndE hf
          clear ev
          obtain ⟨v4, ev, hf⟩ := m_bndE hf
          clear ev
          exact frs_t hR (fw_readRank_82 hself4 hf) (fun _ h => h) (fun _ h => h)
        ·
          exact frs_t hR (fw_readRank_54 hself4 hf) (fun _ h => h) (fun _ h => h)
theorem fw_readRank_4   (n : Nat) : ∀ (y0 : Int32) (y1 : Int32) (y2 : Int32) (I : Nat → Int32) (A : Nat → Nat → Int32) (o : Int32 × MS), f_readRank_4  n y0 y1 y2 I A = some o → FrS [38] [24] I A o.2.1 o.2.2 := by
  induction n with
  | zero => intro y0 y1 y2 I A o hf; cases hf
  | succ n ih => intro y0 y1 y2 I A o hf; exact fw_readRank_4s  ih hf
theorem fw_readRank_0 {o : Int32 × MS} {x1 : Int32} {I : Nat → Int32} {A : Nat → Nat → Int32}  (hf : f_readRank_0 x1 I A = some o) : FrS [38] [24] I A o.2.1 o.2.2 := by
  have hR : FrS [38] [24] I A I A := frs_0
  unfold f_readRank_0 at hf
  exact frs_t hR (fw_readRank_4  mFuel _ _ _ _ _ _ hf) (fun _ h => h) (fun _ h => h)
theorem fw_readRank {o : Int32 × MS} {x1 : Int32} {I : Nat → Int32} {A : Nat → Nat → Int32} (hf : f_readRank x1 I A = some o) : FrS [38] [24] I A o.2.1 o.2.2 := fw_readRank_0  hf
theorem fw_readNumber_86 {o : Int32 × MS} {t0 : Int32} {I : Nat → Int32} {A : Nat → Nat → Int32}  (hf : f_readNumber_86 t0 I A = some o) : FrS [38] [] I A o.2.1 o.2.2 := by
  have hR : FrS [38] [] I A I A := frs_0
  unfold f_readNumber_86 at hf
  cases hf
  exact hR
theorem fw_readNumber_81 {o : Int32 × MS} {I : Nat → Int32} {A : Nat → Nat → Int32}  (hf : f_readNumber_81 I A = some o) : FrS [38] [] I A o.2.1 o.2.2 := by
  have hR : FrS [38] [] I A I A := frs_0
  unfold f_readNumber_81 at hf
  exact frs_t hR (fw_readNumber_86  hf) (fun _ h => h) (fun _ h => h)
theorem fw_readNumber_85 {o : Int32 × MS} {x1 : Int32} {I : Nat → Int32} {A : Nat → Nat → Int32}  (hf : f_readNumber_85 x1 I A = some o) : FrS [38] [] I A o.2.1 o.2.2 := by
  have hR : FrS [38] [] I A I A := frs_0
  unfold f_readNumber_85 at hf
  exact frs_t hR (fw_readNumber_86  hf) (fun _ h => h) (fun _ h => h)
theorem fw_readNumber_61 {o : Int32 × MS} {x1 : Int32} {x2 : Int32} {x3 : Int32} {I : Nat → Int32} {A : Nat → Nat → Int32}  (hf : f_readNumber_61 x1 x2 x3 I A = some o) : FrS [38] [] I A o.2.1 o.2.2 := by
  have hR : FrS [38] [] I A I A := frs_0
  unfold f_readNumber_61 at hf
  rcases m_ifE hf with ⟨-, hf⟩ | ⟨-, hf⟩
  ·
    exact frs_t hR (fw_readNumber_81  hf) (fun _ h => h) (fun _ h => h)
  ·
    rcases m_ifE hf with ⟨-, hf⟩ | ⟨-, hf⟩
    ·
      exact frs_t hR (fw_readNumber_81  hf) (fun _ h => h) (fun _ h => h)
    ·
      rcases m_ifE hf with ⟨-, hf⟩ | ⟨-, hf⟩
      ·
        exact frs_t hR (fw_readNumber_85  hf) (fun _ h => h) (fun _ h => h)
      ·
        rcases m_ifE hf with ⟨-, hf⟩ | ⟨-, hf⟩
        ·
          exact frs_t hR (fw_readNumber_81  hf) (fun _ h => h) (fun _ h => h)
        ·
          exact frs_t hR (fw_readNumber_85  hf) (fun _ h => h) (fun _ h => h)
theorem fw_readNumber_9s {o : Int32 × MS} {self9 : Int32 → Int32 → Int32 → (Nat → Int32) → (Nat → Nat → Int32) → Option (Int32 × MS)} {x1 : Int32} {x2 : Int32} {x3 : Int32} {I : Nat → Int32} {A : Nat → Nat → Int32} (hself9 : ∀ (z0 : Int32) (z1 : Int32) (z2 : Int32) (I : Nat → Int32) (A : Nat → Nat → Int32) (o : Int32 × MS), self9 z0 z1 z2 I A = some o → FrS [38] [] I A o.2.1 o.2.2) (hf : f_readNumber_9s self9 x1 x2 x3 I A = some o) : FrS [38] [] I A o.2.1 o.2.2 := by
  have hR : FrS [38] [] I A I A := frs_0
  unfold f_readNumber_9s at hf
  obtain ⟨or1, ho, hf⟩ := m_clE hf
  replace hR := frs_t hR (fw_sign ho) (by decide) (by decide)
  clear ho
  rcases m_ifE hf with ⟨-, hf⟩ | ⟨-, hf⟩
  ·
    exact frs_t hR (fw_readNumber_61  hf) (fun _ h => h) (fun _ h => h)
  ·
    obtain ⟨or2, ho, hf⟩ := m_clE hf
    replace hR := frs_t hR (fw_sign ho) (by decide) (by decide)
    clear ho
    rcases m_ifE hf with ⟨-, hf⟩ | ⟨-, hf⟩
    ·
      exact frs_t hR (fw_readNumber_61  hf) (fun _ h => h) (fun _ h => h)
    ·
      rcases m_ifE hf with ⟨-, hf⟩ | ⟨-, hf⟩
      ·
        exact frs_t hR (fw_readNumber_61  hf) (fun _ h => h) (fun _ h => h)
      ·
        obtain ⟨v3, ev, hf⟩ := m_bndE hf
        clear ev
        obtain ⟨or4, ho, hf⟩ := m_clE hf
        replace hR := frs_t hR (fw_sign ho) (by decide) (by decide)
        clear ho
        obtain ⟨v5, ev, hf⟩ := m_bndE hf
        clear ev
        obtain ⟨v6, ev, hf⟩ := m_bndE hf
        clear ev
        obtain ⟨v7, ev, hf⟩ := m_bndE hf
        clear ev
        obtain ⟨v8, ev, hf⟩ := m_bndE hf
        clear ev
        obtain ⟨I9, ev, hf⟩ := m_bndE hf
        replace hR := frs_I hR (by decide) ev
        clear ev
        exact frs_t hR (hself9 _ _ _ _ _ _ hf) (fun _ h => h) (fun _ h => h)
theorem fw_readNumber_9   (n : Nat) : ∀ (y0 : Int32) (y1 : Int32) (y2 : Int32) (I : Nat → Int32) (A : Nat → Nat → Int32) (o : Int32 × MS), f_readNumber_9  n y0 y1 y2 I A = some o → FrS [38] [] I A o.2.1 o.2.2 := by
  induction n with
  | zero => intro y0 y1 y2 I A o hf; cases hf
  | succ n ih => intro y0 y1 y2 I A o hf; exact fw_readNumber_9s  ih hf
theorem fw_readNumber_0 {o : Int32 × MS} {I : Nat → Int32} {A : Nat → Nat → Int32}  (hf : f_readNumber_0 I A = some o) : FrS [38] [] I A o.2.1 o.2.2 := by
  have hR : FrS [38] [] I A I A := frs_0
  unfold f_readNumber_0 at hf
  obtain ⟨or1, ho, hf⟩ := m_clE hf
  replace hR := frs_t hR (fw_sign ho) (by decide) (by decide)
  clear ho
  exact frs_t hR (fw_readNumber_9  mFuel _ _ _ _ _ _ hf) (fun _ h => h) (fun _ h => h)
theorem fw_readNumber {o : Int32 × MS}  {I : Nat → Int32} {A : Nat → Nat → Int32} (hf : f_readNumber  I A = some o) : FrS [38] [] I A o.2.1 o.2.2 := fw_readNumber_0  hf
theorem fw_readRights_106 {o : Int32 × MS} {t0 : Int32} {I : Nat → Int32} {A : Nat → Nat → Int32}  (hf : f_readRights_106 t0 I A = some o) : FrS [26, 38] [] I A o.2.1 o.2.2 := by
  have hR : FrS [26, 38] [] I A I A := frs_0
  unfold f_readRights_106 at hf
  obtain ⟨-, hf⟩ := m_chkE hf
  cases hf
  exact hR
theorem fw_readRights_88 {o : Int32 × MS} {self23 : Int32 → (Nat → Int32) → (Nat → Nat → Int32) → Option (Int32 × MS)} {x1 : Int32} {I : Nat → Int32} {A : Nat → Nat → Int32} (hself23 : ∀ (z0 : Int32) (I : Nat → Int32) (A : Nat → Nat → Int32) (o : Int32 × MS), self23 z0 I A = some o → FrS [26, 38] [] I A o.2.1 o.2.2) (hf : f_readRights_88 self23 x1 I A = some o) : FrS [26, 38] [] I A o.2.1 o.2.2 := by
  have hR : FrS [26, 38] [] I A I A := frs_0
  unfold f_readRights_88 at hf
  obtain ⟨v1, ev, hf⟩ := m_bndE hf
  clear ev
  exact frs_t hR (hself23 _ _ _ _ hf) (fun _ h => h) (fun _ h => h)
theorem fw_readRights_63 {o : Int32 × MS} {self23 : Int32 → (Nat → Int32) → (Nat → Nat → Int32) → Option (Int32 × MS)} {x1 : Int32} {t0 : Int32} {t1 : Int32} {I : Nat → Int32} {A : Nat → Nat → Int32} (hself23 : ∀ (z0 : Int32) (I : Nat → Int32) (A : Nat → Nat → Int32) (o : Int32 × MS), self23 z0 I A = some o → FrS [26, 38] [] I A o.2.1 o.2.2) (hf : f_readRights_63 self23 x1 t0 t1 I A = some o) : FrS [26, 38] [] I A o.2.1 o.2.2 := by
  have hR : FrS [26, 38] [] I A I A := frs_0
  unfold f_readRights_63 at hf
  rcases m_ifE hf with ⟨-, hf⟩ | ⟨-, hf⟩
  ·
    obtain ⟨v1, ev, hf⟩ := m_bndE hf
    clear ev
    obtain ⟨v2, ev, hf⟩ := m_bndE hf
    clear ev
    obtain ⟨I3, ev, hf⟩ := m_bndE hf
    replace hR := frs_I hR (by decide) ev
    clear ev
    obtain ⟨v4, ev, hf⟩ := m_bndE hf
    clear ev
    obtain ⟨I5, ev, hf⟩ := m_bndE hf
    replace hR := frs_I hR (by decide) ev
    clear ev
    exact frs_t hR (fw_readRights_88 hself23 hf) (fun _ h => h) (fun _ h => h)
  ·
    exact frs_t hR (fw_readRights_88 hself23 hf) (fun _ h => h) (fun _ h => h)
theorem fw_readRights_23s {o : Int32 × MS} {self23 : Int32 → (Nat → Int32) → (Nat → Nat → Int32) → Option (Int32 × MS)} {x1 : Int32} {I : Nat → Int32} {A : Nat → Nat → Int32} (hself23 : ∀ (z0 : Int32) (I : Nat → Int32) (A : Nat → Nat → Int32) (o : Int32 × MS), self23 z0 I A = some o → FrS [26, 38] [] I A o.2.1 o.2.2) (hf : f_readRights_23s self23 x1 I A = some o) : FrS [26, 38] [] I A o.2.1 o.2.2 := by
  have hR : FrS [26, 38] [] I A I A := frs_0
  unfold f_readRights_23s at hf
  rcases m_ifE hf with ⟨-, hf⟩ | ⟨-, hf⟩
  ·
    rcases m_ifE hf with ⟨-, hf⟩ | ⟨-, hf⟩
    ·
      exact frs_t hR (fw_readRights_106  hf) (fun _ h => h) (fun _ h => h)
    ·
      exact frs_t hR (fw_readRights_106  hf) (fun _ h => h) (fun _ h => h)
  ·
    obtain ⟨or1, ho, hf⟩ := m_clE hf
    replace hR := frs_t hR (fw_sign ho) (by decide) (by decide)
    clear ho
    rcases m_ifE hf with ⟨-, hf⟩ | ⟨-, hf⟩
    ·
      exact frs_t hR (fw_readRights_63 hself23 hf) (fun _ h => h) (fun _ h => h)
    ·
      rcases m_ifE hf with ⟨-, hf⟩ | ⟨-, hf⟩
      ·
        exact frs_t hR (fw_readRights_63 hself23 hf) (fun _ h => h) (fun _ h => h)
      ·
        rcases m_ifE hf with ⟨-, hf⟩ | ⟨-, hf⟩
        ·
          exact frs_t hR (fw_readRights_63 hself23 hf) (fun _ h => h) (fun _ h => h)
        ·
          exact frs_t hR (fw_readRights_63 hself23 hf) (fun _ h => h) (fun _ h => h)
theorem fw_readRights_23   (n : Nat) : ∀ (y0 : Int32) (I : Nat → Int32) (A : Nat → Nat → Int32) (o : Int32 × MS), f_readRights_23  n y0 I A = some o → FrS [26, 38] [] I A o.2.1 o.2.2 := by
  induction n with
  | zero => intro y0 I A o hf; cases hf
  | succ n ih => intro y0 I A o hf; exact fw_readRights_23s  ih hf
theorem fw_readRights_0 {o : Int32 × MS} {I : Nat → Int32} {A : Nat → Nat → Int32}  (hf : f_readRights_0 I A = some o) : FrS [26, 38] [] I A o.2.1 o.2.2 := by
  have hR : FrS [26, 38] [] I A I A := frs_0
  unfold f_readRights_0 at hf
  obtain ⟨I1, ev, hf⟩ := m_bndE hf
  replace hR := frs_I hR (by decide) ev
  clear ev
  obtain ⟨or2, ho, hf⟩ := m_clE hf
  replace hR := frs_t hR (fw_sign ho) (by decide) (by decide)
  clear ho
  rcases m_ifE hf with ⟨-, hf⟩ | ⟨-, hf⟩
  ·
    obtain ⟨or3, ho, hf⟩ := m_clE hf
    replace hR := frs_t hR (fw_pass ho) (by decide) (by decide)
    clear ho
    obtain ⟨-, hf⟩ := m_chkE hf
    cases hf
    exact hR
  ·
    exact frs_t hR (fw_readRights_23  mFuel _ _ _ _ hf) (fun _ h => h) (fun _ h => h)
theorem fw_readRights {o : Int32 × MS}  {I : Nat → Int32} {A : Nat → Nat → Int32} (hf : f_readRights  I A = some o) : FrS [26, 38] [] I A o.2.1 o.2.2 := fw_readRights_0  hf
theorem fw_readPassed_103 {o : Int32 × MS} {t0 : Int32} {I : Nat → Int32} {A : Nat → Nat → Int32}  (hf : f_readPassed_103 t0 I A = some o) : FrS [27, 38] [] I A o.2.1 o.2.2 := by
  have hR : FrS [27, 38] [] I A I A := frs_0
  unfold f_readPassed_103 at hf
  obtain ⟨-, hf⟩ := m_chkE hf
  cases hf
  exact hR
theorem fw_readPassed_88 {o : Int32 × MS} {t0 : Int32} {I : Nat → Int32} {A : Nat → Nat → Int32}  (hf : f_readPassed_88 t0 I A = some o) : FrS [27, 38] [] I A o.2.1 o.2.2 := by
  have hR : FrS [27, 38] [] I A I A := frs_0
  unfold f_readPassed_88 at hf
  obtain ⟨I1, ev, hf⟩ := m_bndE hf
  replace hR := frs_I hR (by decide) ev
  clear ev
  rcases m_ifE hf with ⟨-, hf⟩ | ⟨-, hf⟩
  ·
    exact frs_t hR (fw_readPassed_103  hf) (fun _ h => h) (fun _ h => h)
  ·
    exact frs_t hR (fw_readPassed_103  hf) (fun _ h => h) (fun _ h => h)
theorem fw_readPassed_87 {o : Int32 × MS} {I : Nat → Int32} {A : Nat → Nat → Int32}  (hf : f_readPassed_87 I A = some o) : FrS [27, 38] [] I A o.2.1 o.2.2 := by
  have hR : FrS [27, 38] [] I A I A := frs_0
  unfold f_readPassed_87 at hf
  exact frs_t hR (fw_readPassed_88  hf) (fun _ h => h) (fun _ h => h)
theorem fw_readPassed_0 {o : Int32 × MS} {I : Nat → Int32} {A : Nat → Nat → Int32}  (hf : f_readPassed_0 I A = some o) : FrS [27, 38] [] I A o.2.1 o.2.2 := by
  have hR : FrS [27, 38] [] I A I A := frs_0
  unfold f_readPassed_0 at hf
  obtain ⟨I1, ev, hf⟩ := m_bndE hf
  replace hR := frs_I hR (by decide) ev
  clear ev
  obtain ⟨or2, ho, hf⟩ := m_clE hf
  replace hR := frs_t hR (fw_sign ho) (by decide) (by decide)
  clear ho
  rcases m_ifE hf with ⟨-, hf⟩ | ⟨-, hf⟩
  ·
    obtain ⟨or13, ho, hf⟩ := m_clE hf
    replace hR := frs_t hR (fw_pass ho) (by decide) (by decide)
    clear ho
    obtain ⟨-, hf⟩ := m_chkE hf
    cases hf
    exact hR
  ·
    obtain ⟨or3, ho, hf⟩ := m_clE hf
    replace hR := frs_t hR (fw_sign ho) (by decide) (by decide)
    clear ho
    obtain ⟨v4, ev, hf⟩ := m_bndE hf
    clear ev
    obtain ⟨v5, ev, hf⟩ := m_bndE hf
    clear ev
    obtain ⟨I6, ev, hf⟩ := m_bndE hf
    replace hR := frs_I hR (by decide) ev
    clear ev
    obtain ⟨or7, ho, hf⟩ := m_clE hf
    replace hR := frs_t hR (fw_sign ho) (by decide) (by decide)
    clear ho
    obtain ⟨v8, ev, hf⟩ := m_bndE hf
    clear ev
    obtain ⟨v9, ev, hf⟩ := m_bndE hf
    clear ev
    obtain ⟨I10, ev, hf⟩ := m_bndE hf
    replace hR := frs_I hR (by decide) ev
    clear ev
    rcases m_ifE hf with ⟨-, hf⟩ | ⟨-, hf⟩
    ·
      exact frs_t hR (fw_readPassed_87  hf) (fun _ h => h) (fun _ h => h)
    ·
      rcases m_ifE hf with ⟨-, hf⟩ | ⟨-, hf⟩
      ·
        exact frs_t hR (fw_readPassed_87  hf) (fun _ h => h) (fun _ h => h)
      ·
        rcases m_ifE hf with ⟨-, hf⟩ | ⟨-, hf⟩
        ·
          exact frs_t hR (fw_readPassed_87  hf) (fun _ h => h) (fun _ h => h)
        ·
          rcases m_ifE hf with ⟨-, hf⟩ | ⟨-, hf⟩
          ·
            exact frs_t hR (fw_readPassed_87  hf) (fun _ h => h) (fun _ h => h)
          ·
            obtain ⟨v11, ev, hf⟩ := m_bndE hf
            clear ev
            obtain ⟨v12, ev, hf⟩ := m_bndE hf
            clear ev
            exact frs_t hR (fw_readPassed_88  hf) (fun _ h => h) (fun _ h => h)
theorem fw_readPassed {o : Int32 × MS}  {I : Nat → Int32} {A : Nat → Nat → Int32} (hf : f_readPassed  I A = some o) : FrS [27, 38] [] I A o.2.1 o.2.2 := fw_readPassed_0  hf
theorem fw_countOf_27 {o : Int32 × MS} {self4 : Int32 → Int32 → Int32 → (Nat → Int32) → (Nat → Nat → Int32) → Option (Int32 × MS)} {x1 : Int32} {x3 : Int32} {t0 : Int32} {I : Nat → Int32} {A : Nat → Nat → Int32} (hself4 : ∀ (z0 : Int32) (z1 : Int32) (z2 : Int32) (I : Nat → Int32) (A : Nat → Nat → Int32) (o : Int32 × MS), self4 z0 z1 z2 I A = some o → FrS [] [] I A o.2.1 o.2.2) (hf : f_countOf_27 self4 x1 x3 t0 I A = some o) : FrS [] [] I A o.2.1 o.2.2 := by
  have hR : FrS [] [] I A I A := frs_0
  unfold f_countOf_27 at hf
  obtain ⟨v1, ev, hf⟩ := m_bndE hf
  clear ev
  exact frs_t hR (hself4 _ _ _ _ _ _ hf) (fun _ h => h) (fun _ h => h)
theorem fw_countOf_4s {o : Int32 × MS} {self4 : Int32 → Int32 → Int32 → (Nat → Int32) → (Nat → Nat → Int32) → Option (Int32 × MS)} {x1 : Int32} {x2 : Int32} {x3 : Int32} {I : Nat → Int32} {A : Nat → Nat → Int32} (hself4 : ∀ (z0 : Int32) (z1 : Int32) (z2 : Int32) (I : Nat → Int32) (A : Nat → Nat → Int32) (o : Int32 × MS), self4 z0 z1 z2 I A = some o → FrS [] [] I A o.2.1 o.2.2) (hf : f_countOf_4s self4 x1 x2 x3 I A = some o) : FrS [] [] I A o.2.1 o.2.2 := by
  have hR : FrS [] [] I A I A := frs_0
  unfold f_countOf_4s at hf
  rcases m_ifE hf with ⟨-, hf⟩ | ⟨-, hf⟩
  ·
    cases hf
    exact hR
  ·
    obtain ⟨-, hf⟩ := m_chkE hf
    obtain ⟨v1, ev, hf⟩ := m_bndE hf
    clear ev
    rcases m_ifE hf with ⟨-, hf⟩ | ⟨-, hf⟩
    ·
      obtain ⟨v2, ev, hf⟩ := m_bndE hf
      clear ev
      exact frs_t hR (fw_countOf_27 hself4 hf) (fun _ h => h) (fun _ h => h)
    ·
      exact frs_t hR (fw_countOf_27 hself4 hf) (fun _ h => h) (fun _ h => h)
theorem fw_countOf_4   (n : Nat) : ∀ (y0 : Int32) (y1 : Int32) (y2 : Int32) (I : Nat → Int32) (A : Nat → Nat → Int32) (o : Int32 × MS), f_countOf_4  n y0 y1 y2 I A = some o → FrS [] [] I A o.2.1 o.2.2 := by
  induction n with
  | zero => intro y0 y1 y2 I A o hf; cases hf
  | succ n ih => intro y0 y1 y2 I A o hf; exact fw_countOf_4s  ih hf
theorem fw_countOf_0 {o : Int32 × MS} {x1 : Int32} {I : Nat → Int32} {A : Nat → Nat → Int32}  (hf : f_countOf_0 x1 I A = some o) : FrS [] [] I A o.2.1 o.2.2 := by
  have hR : FrS [] [] I A I A := frs_0
  unfold f_countOf_0 at hf
  exact frs_t hR (fw_countOf_4  mFuel _ _ _ _ _ _ hf) (fun _ h => h) (fun _ h => h)
theorem fw_countOf {o : Int32 × MS} {x1 : Int32} {I : Nat → Int32} {A : Nat → Nat → Int32} (hf : f_countOf x1 I A = some o) : FrS [] [] I A o.2.1 o.2.2 := fw_countOf_0  hf
theorem fw_mayStand_20 {o : Int32 × MS} {I : Nat → Int32} {A : Nat → Nat → Int32}  (hf : f_mayStand_20 I A = some o) : FrS [] [] I A o.2.1 o.2.2 := by
  have hR : FrS [] [] I A I A := frs_0
  unfold f_mayStand_20 at hf
  obtain ⟨-, hf⟩ := m_chkE hf
  cases hf
  exact hR
theorem fw_mayStand_202 {o : Int32 × MS} {x1 : Int32} {I : Nat → Int32} {A : Nat → Nat → Int32}  (hf : f_mayStand_202 x1 I A = some o) : FrS [] [] I A o.2.1 o.2.2 := by
  have hR : FrS [] [] I A I A := frs_0
  unfold f_mayStand_202 at hf
  obtain ⟨-, hf⟩ := m_chkE hf
  cases hf
  exact hR
theorem fw_mayStand_383 {o : Int32 × MS} {t0 : Int32} {I : Nat → Int32} {A : Nat → Nat → Int32}  (hf : f_mayStand_383 t0 I A = some o) : FrS [] [] I A o.2.1 o.2.2 := by
  have hR : FrS [] [] I A I A := frs_0
  unfold f_mayStand_383 at hf
  obtain ⟨-, hf⟩ := m_chkE hf
  cases hf
  exact hR
theorem fw_mayStand_382 {o : Int32 × MS} {I : Nat → Int32} {A : Nat → Nat → Int32}  (hf : f_mayStand_382 I A = some o) : FrS [] [] I A o.2.1 o.2.2 := by
  have hR : FrS [] [] I A I A := frs_0
  unfold f_mayStand_382 at hf
  exact frs_t hR (fw_mayStand_383  hf) (fun _ h => h) (fun _ h => h)
theorem fw_mayStand_378 {o : Int32 × MS} {I : Nat → Int32} {A : Nat → Nat → Int32}  (hf : f_mayStand_378 I A = some o) : FrS [] [] I A o.2.1 o.2.2 := by
  have hR : FrS [] [] I A I A := frs_0
  unfold f_mayStand_378 at hf
  exact frs_t hR (fw_mayStand_383  hf) (fun _ h => h) (fun _ h => h)
theorem fw_mayStand_320 {o : Int32 × MS} {x3 : Int32} {t0 : Int32} {I : Nat → Int32} {A : Nat → Nat → Int32}  (hf : f_mayStand_320 x3 t0 I A = some o) : FrS [] [] I A o.2.1 o.2.2 := by
  have hR : FrS [] [] I A I A := frs_0
  unfold f_mayStand_320 at hf
  rcases m_ifE hf with ⟨-, hf⟩ | ⟨-, hf⟩
  ·
    exact frs_t hR (fw_mayStand_382  hf) (fun _ h => h) (fun _ h => h)
  ·
    obtain ⟨or1, ho, hf⟩ := m_clE hf
    replace hR := frs_t hR (fw_step ho) (by decide) (by decide)
    clear ho
    obtain ⟨v2, ev, hf⟩ := m_bndE hf
    clear ev
    obtain ⟨v3, ev, hf⟩ := m_bndE hf
    clear ev
    obtain ⟨or4, ho, hf⟩ := m_clE hf
    replace hR := frs_t hR (fw_stands ho) (by decide) (by decide)
    clear ho
    rcases m_ifE hf with ⟨-, hf⟩ | ⟨-, hf⟩
    ·
      obtain ⟨or5, ho, hf⟩ := m_clE hf
      replace hR := frs_t hR (fw_step ho) (by decide) (by decide)
      clear ho
      obtain ⟨v6, ev, hf⟩ := m_bndE hf
      clear ev
      obtain ⟨v7, ev, hf⟩ := m_bndE hf
      clear ev
      obtain ⟨or8, ho, hf⟩ := m_clE hf
      replace hR := frs_t hR (fw_stands ho) (by decide) (by decide)
      clear ho
      rcases m_ifE hf with ⟨-, hf⟩ | ⟨-, hf⟩
      ·
        exact frs_t hR (fw_mayStand_382  hf) (fun _ h => h) (fun _ h => h)
      ·
        exact frs_t hR (fw_mayStand_378  hf) (fun _ h => h) (fun _ h => h)
    ·
      exact frs_t hR (fw_mayStand_378  hf) (fun _ h => h) (fun _ h => h)
theorem fw_mayStand_307 {o : Int32 × MS} {t0 : Int32} {I : Nat → Int32} {A : Nat → Nat → Int32}  (hf : f_mayStand_307 t0 I A = some o) : FrS [] [] I A o.2.1 o.2.2 := by
  have hR : FrS [] [] I A I A := frs_0
  unfold f_mayStand_307 at hf
  rcases m_ifE hf with ⟨-, hf⟩ | ⟨-, hf⟩
  ·
    exact frs_t hR (fw_mayStand_320  hf) (fun _ h => h) (fun _ h => h)
  ·
    exact frs_t hR (fw_mayStand_320  hf) (fun _ h => h) (fun _ h => h)
theorem fw_mayStand_306 {o : Int32 × MS} {I : Nat → Int32} {A : Nat → Nat → Int32}  (hf : f_mayStand_306 I A = some o) : FrS [] [] I A o.2.1 o.2.2 := by
  have hR : FrS [] [] I A I A := frs_0
  unfold f_mayStand_306 at hf
  exact frs_t hR (fw_mayStand_307  hf) (fun _ h => h) (fun _ h => h)
theorem fw_mayStand_258 {o : Int32 × MS} {x2 : Int32} {t0 : Int32} {I : Nat → Int32} {A : Nat → Nat → Int32}  (hf : f_mayStand_258 x2 t0 I A = some o) : FrS [] [] I A o.2.1 o.2.2 := by
  have hR : FrS [] [] I A I A := frs_0
  unfold f_mayStand_258 at hf
  rcases m_ifE hf with ⟨-, hf⟩ | ⟨-, hf⟩
  ·
    exact frs_t hR (fw_mayStand_306  hf) (fun _ h => h) (fun _ h => h)
  ·
    obtain ⟨v1, ev, hf⟩ := m_bndE hf
    clear ev
    obtain ⟨-, hf⟩ := m_chkE hf
    obtain ⟨v2, ev, hf⟩ := m_bndE hf
    clear ev
    rcases m_ifE hf with ⟨-, hf⟩ | ⟨-, hf⟩
    ·
      obtain ⟨v3, ev, hf⟩ := m_bndE hf
      clear ev
      obtain ⟨-, hf⟩ := m_chkE hf
      obtain ⟨v4, ev, hf⟩ := m_bndE hf
      clear ev
      obtain ⟨v5, ev, hf⟩ := m_bndE hf
      clear ev
      obtain ⟨v6, ev, hf⟩ := m_bndE hf
      clear ev
      obtain ⟨v7, ev, hf⟩ := m_bndE hf
      clear ev
      rcases m_ifE hf with ⟨-, hf⟩ | ⟨-, hf⟩
      ·
        exact frs_t hR (fw_mayStand_307  hf) (fun _ h => h) (fun _ h => h)
      ·
        exact frs_t hR (fw_mayStand_306  hf) (fun _ h => h) (fun _ h => h)
    ·
      exact frs_t hR (fw_mayStand_306  hf) (fun _ h => h) (fun _ h => h)
theorem fw_mayStand_257 {o : Int32 × MS} {x2 : Int32} {I : Nat → Int32} {A : Nat → Nat → Int32}  (hf : f_mayStand_257 x2 I A = some o) : FrS [] [] I A o.2.1 o.2.2 := by
  have hR : FrS [] [] I A I A := frs_0
  unfold f_mayStand_257 at hf
  exact frs_t hR (fw_mayStand_258  hf) (fun _ h => h) (fun _ h => h)
theorem fw_mayStand_238 {o : Int32 × MS} {x2 : Int32} {t0 : Int32} {t1 : Int32} {I : Nat → Int32} {A : Nat → Nat → Int32}  (hf : f_mayStand_238 x2 t0 t1 I A = some o) : FrS [] [] I A o.2.1 o.2.2 := by
  have hR : FrS [] [] I A I A := frs_0
  unfold f_mayStand_238 at hf
  rcases m_ifE hf with ⟨-, hf⟩ | ⟨-, hf⟩
  ·
    obtain ⟨-, hf⟩ := m_chkE hf
    obtain ⟨v1, ev, hf⟩ := m_bndE hf
    clear ev
    rcases m_ifE hf with ⟨-, hf⟩ | ⟨-, hf⟩
    ·
      exact frs_t hR (fw_mayStand_258  hf) (fun _ h => h) (fun _ h => h)
    ·
      exact frs_t hR (fw_mayStand_257  hf) (fun _ h => h) (fun _ h => h)
  ·
    exact frs_t hR (fw_mayStand_257  hf) (fun _ h => h) (fun _ h => h)
theorem fw_mayStand_218 {o : Int32 × MS} {t0 : Int32} {I : Nat → Int32} {A : Nat → Nat → Int32}  (hf : f_mayStand_218 t0 I A = some o) : FrS [] [] I A o.2.1 o.2.2 := by
  have hR : FrS [] [] I A I A := frs_0
  unfold f_mayStand_218 at hf
  obtain ⟨v1, ev, hf⟩ := m_bndE hf
  clear ev
  rcases m_ifE hf with ⟨-, hf⟩ | ⟨-, hf⟩
  ·
    exact frs_t hR (fw_mayStand_238  hf) (fun _ h => h) (fun _ h => h)
  ·
    exact frs_t hR (fw_mayStand_238  hf) (fun _ h => h) (fun _ h => h)
theorem fw_mayStand_184 {o : Int32 × MS} {self102 : Int32 → Int32 → (Nat → Int32) → (Nat → Nat → Int32) → Option (Int32 × MS)} {x2 : Int32} {t0 : Int32} {I : Nat → Int32} {A : Nat → Nat → Int32} (hself102 : ∀ (z0 : Int32) (z1 : Int32) (I : Nat → Int32) (A : Nat → Nat → Int32) (o : Int32 × MS), self102 z0 z1 I A = some o → FrS [] [] I A o.2.1 o.2.2) (hf : f_mayStand_184 self102 x2 t0 I A = some o) : FrS [] [] I A o.2.1 o.2.2 := by
  have hR : FrS [] [] I A I A := frs_0
  unfold f_mayStand_184 at hf
  obtain ⟨v1, ev, hf⟩ := m_bndE hf
  clear ev
  exact frs_t hR (hself102 _ _ _ _ _ hf) (fun _ h => h) (fun _ h => h)
theorem fw_mayStand_183 {o : Int32 × MS} {self102 : Int32 → Int32 → (Nat → Int32) → (Nat → Nat → Int32) → Option (Int32 × MS)} {x2 : Int32} {I : Nat → Int32} {A : Nat → Nat → Int32} (hself102 : ∀ (z0 : Int32) (z1 : Int32) (I : Nat → Int32) (A : Nat → Nat → Int32) (o : Int32 × MS), self102 z0 z1 I A = some o → FrS [] [] I A o.2.1 o.2.2) (hf : f_mayStand_183 self102 x2 I A = some o) : FrS [] [] I A o.2.1 o.2.2 := by
  have hR : FrS [] [] I A I A := frs_0
  unfold f_mayStand_183 at hf
  exact frs_t hR (fw_mayStand_184 hself102 hf) (fun _ h => h) (fun _ h => h)
theorem fw_mayStand_179 {o : Int32 × MS} {self102 : Int32 → Int32 → (Nat → Int32) → (Nat → Nat → Int32) → Option (Int32 × MS)} {x2 : Int32} {I : Nat → Int32} {A : Nat → Nat → Int32} (hself102 : ∀ (z0 : Int32) (z1 : Int32) (I : Nat → Int32) (A : Nat → Nat → Int32) (o : Int32 × MS), self102 z0 z1 I A = some o → FrS [] [] I A o.2.1 o.2.2) (hf : f_mayStand_179 self102 x2 I A = some o) : FrS [] [] I A o.2.1 o.2.2 := by
  have hR : FrS [] [] I A I A := frs_0
  unfold f_mayStand_179 at hf
  exact frs_t hR (fw_mayStand_184 hself102 hf) (fun _ h => h) (fun _ h => h)
theorem fw_mayStand_170 {o : Int32 × MS} {self102 : Int32 → Int32 → (Nat → Int32) → (Nat → Nat → Int32) → Option (Int32 × MS)} {x2 : Int32} {x4 : Int32} {t0 : Int32} {t1 : Int32} {I : Nat → Int32} {A : Nat → Nat → Int32} (hself102 : ∀ (z0 : Int32) (z1 : Int32) (I : Nat → Int32) (A : Nat → Nat → Int32) (o : Int32 × MS), self102 z0 z1 I A = some o → FrS [] [] I A o.2.1 o.2.2) (hf : f_mayStand_170 self102 x2 x4 t0 t1 I A = some o) : FrS [] [] I A o.2.1 o.2.2 := by
  have hR : FrS [] [] I A I A := frs_0
  unfold f_mayStand_170 at hf
  obtain ⟨v1, ev, hf⟩ := m_bndE hf
  clear ev
  obtain ⟨-, hf⟩ := m_chkE hf
  obtain ⟨v2, ev, hf⟩ := m_bndE hf
  clear ev
  obtain ⟨v3, ev, hf⟩ := m_bndE hf
  clear ev
  rcases m_ifE hf with ⟨-, hf⟩ | ⟨-, hf⟩
  ·
    exact frs_t hR (fw_mayStand_179 hself102 hf) (fun _ h => h) (fun _ h => h)
  ·
    exact frs_t hR (fw_mayStand_183 hself102 hf) (fun _ h => h) (fun _ h => h)
theorem fw_mayStand_102s {o : Int32 × MS} {self102 : Int32 → Int32 → (Nat → Int32) → (Nat → Nat → Int32) → Option (Int32 × MS)} {x1 : Int32} {x2 : Int32} {I : Nat → Int32} {A : Nat → Nat → Int32} (hself102 : ∀ (z0 : Int32) (z1 : Int32) (I : Nat → Int32) (A : Nat → Nat → Int32) (o : Int32 × MS), self102 z0 z1 I A = some o → FrS [] [] I A o.2.1 o.2.2) (hf : f_mayStand_102s self102 x1 x2 I A = some o) : FrS [] [] I A o.2.1 o.2.2 := by
  have hR : FrS [] [] I A I A := frs_0
  unfold f_mayStand_102s at hf
  rcases m_ifE hf with ⟨-, hf⟩ | ⟨-, hf⟩
  ·
    rcases m_ifE hf with ⟨-, hf⟩ | ⟨-, hf⟩
    ·
      exact frs_t hR (fw_mayStand_202  hf) (fun _ h => h) (fun _ h => h)
    ·
      rcases m_ifE hf with ⟨-, hf⟩ | ⟨-, hf⟩
      ·
        exact frs_t hR (fw_mayStand_202  hf) (fun _ h => h) (fun _ h => h)
      ·
        rcases m_ifE hf with ⟨-, hf⟩ | ⟨-, hf⟩
        ·
          exact frs_t hR (fw_mayStand_218  hf) (fun _ h => h) (fun _ h => h)
        ·
          exact frs_t hR (fw_mayStand_218  hf) (fun _ h => h) (fun _ h => h)
  ·
    obtain ⟨v1, ev, hf⟩ := m_bndE hf
    clear ev
    obtain ⟨v2, ev, hf⟩ := m_bndE hf
    clear ev
    obtain ⟨v3, ev, hf⟩ := m_bndE hf
    clear ev
    obtain ⟨v4, ev, hf⟩ := m_bndE hf
    clear ev
    rcases m_ifE hf with ⟨-, hf⟩ | ⟨-, hf⟩
    ·
      exact frs_t hR (fw_mayStand_183 hself102 hf) (fun _ h => h) (fun _ h => h)
    ·
      obtain ⟨v5, ev, hf⟩ := m_bndE hf
      clear ev
      obtain ⟨v6, ev, hf⟩ := m_bndE hf
      clear ev
      rcases m_ifE hf with ⟨-, hf⟩ | ⟨-, hf⟩
      ·
        exact frs_t hR (fw_mayStand_179 hself102 hf) (fun _ h => h) (fun _ h => h)
      ·
        obtain ⟨v7, ev, hf⟩ := m_bndE hf
        clear ev
        obtain ⟨-, hf⟩ := m_chkE hf
        obtain ⟨v8, ev, hf⟩ := m_bndE hf
        clear ev
        obtain ⟨v9, ev, hf⟩ := m_bndE hf
        clear ev
        rcases m_ifE hf with ⟨-, hf⟩ | ⟨-, hf⟩
        ·
          obtain ⟨v10, ev, hf⟩ := m_bndE hf
          clear ev
          rcases m_ifE hf with ⟨-, hf⟩ | ⟨-, hf⟩
          ·
            exact frs_t hR (fw_mayStand_170 hself102 hf) (fun _ h => h) (fun _ h => h)
          ·
            exact frs_t hR (fw_mayStand_170 hself102 hf) (fun _ h => h) (fun _ h => h)
        ·
          exact frs_t hR (fw_mayStand_183 hself102 hf) (fun _ h => h) (fun _ h => h)
theorem fw_mayStand_102   (n : Nat) : ∀ (y0 : Int32) (y1 : Int32) (I : Nat → Int32) (A : Nat → Nat → Int32) (o : Int32 × MS), f_mayStand_102  n y0 y1 I A = some o → FrS [] [] I A o.2.1 o.2.2 := by
  induction n with
  | zero => intro y0 y1 I A o hf; cases hf
  | succ n ih => intro y0 y1 I A o hf; exact fw_mayStand_102s  ih hf
theorem fw_mayStand_99 {o : Int32 × MS} {t0 : Int32} {I : Nat → Int32} {A : Nat → Nat → Int32}  (hf : f_mayStand_99 t0 I A = some o) : FrS [] [] I A o.2.1 o.2.2 := by
  have hR : FrS [] [] I A I A := frs_0
  unfold f_mayStand_99 at hf
  exact frs_t hR (fw_mayStand_102  mFuel _ _ _ _ _ hf) (fun _ h => h) (fun _ h => h)
theorem fw_mayStand_98 {o : Int32 × MS} {I : Nat → Int32} {A : Nat → Nat → Int32}  (hf : f_mayStand_98 I A = some o) : FrS [] [] I A o.2.1 o.2.2 := by
  have hR : FrS [] [] I A I A := frs_0
  unfold f_mayStand_98 at hf
  exact frs_t hR (fw_mayStand_99  hf) (fun _ h => h) (fun _ h => h)
theorem fw_mayStand_70 {o : Int32 × MS} {self26 : Int32 → Int32 → (Nat → Int32) → (Nat → Nat → Int32) → Option (Int32 × MS)} {x2 : Int32} {t0 : Int32} {I : Nat → Int32} {A : Nat → Nat → Int32} (hself26 : ∀ (z0 : Int32) (z1 : Int32) (I : Nat → Int32) (A : Nat → Nat → Int32) (o : Int32 × MS), self26 z0 z1 I A = some o → FrS [] [] I A o.2.1 o.2.2) (hf : f_mayStand_70 self26 x2 t0 I A = some o) : FrS [] [] I A o.2.1 o.2.2 := by
  have hR : FrS [] [] I A I A := frs_0
  unfold f_mayStand_70 at hf
  obtain ⟨v1, ev, hf⟩ := m_bndE hf
  clear ev
  exact frs_t hR (hself26 _ _ _ _ _ hf) (fun _ h => h) (fun _ h => h)
theorem fw_mayStand_69 {o : Int32 × MS} {self26 : Int32 → Int32 → (Nat → Int32) → (Nat → Nat → Int32) → Option (Int32 × MS)} {x2 : Int32} {I : Nat → Int32} {A : Nat → Nat → Int32} (hself26 : ∀ (z0 : Int32) (z1 : Int32) (I : Nat → Int32) (A : Nat → Nat → Int32) (o : Int32 × MS), self26 z0 z1 I A = some o → FrS [] [] I A o.2.1 o.2.2) (hf : f_mayStand_69 self26 x2 I A = some o) : FrS [] [] I A o.2.1 o.2.2 := by
  have hR : FrS [] [] I A I A := frs_0
  unfold f_mayStand_69 at hf
  exact frs_t hR (fw_mayStand_70 hself26 hf) (fun _ h => h) (fun _ h => h)
theorem fw_mayStand_26s {o : Int32 × MS} {self26 : Int32 → Int32 → (Nat → Int32) → (Nat → Nat → Int32) → Option (Int32 × MS)} {x1 : Int32} {x2 : Int32} {I : Nat → Int32} {A : Nat → Nat → Int32} (hself26 : ∀ (z0 : Int32) (z1 : Int32) (I : Nat → Int32) (A : Nat → Nat → Int32) (o : Int32 × MS), self26 z0 z1 I A = some o → FrS [] [] I A o.2.1 o.2.2) (hf : f_mayStand_26s self26 x1 x2 I A = some o) : FrS [] [] I A o.2.1 o.2.2 := by
  have hR : FrS [] [] I A I A := frs_0
  unfold f_mayStand_26s at hf
  rcases m_ifE hf with ⟨-, hf⟩ | ⟨-, hf⟩
  ·
    rcases m_ifE hf with ⟨-, hf⟩ | ⟨-, hf⟩
    ·
      exact frs_t hR (fw_mayStand_98  hf) (fun _ h => h) (fun _ h => h)
    ·
      obtain ⟨v1, ev, hf⟩ := m_bndE hf
      clear ev
      obtain ⟨or2, ho, hf⟩ := m_clE hf
      replace hR := frs_t hR (fw_isInCheck ho) (by decide) (by decide)
      clear ho
      rcases m_ifE hf with ⟨-, hf⟩ | ⟨-, hf⟩
      ·
        exact frs_t hR (fw_mayStand_99  hf) (fun _ h => h) (fun _ h => h)
      ·
        exact frs_t hR (fw_mayStand_98  hf) (fun _ h => h) (fun _ h => h)
  ·
    rcases m_ifE hf with ⟨-, hf⟩ | ⟨-, hf⟩
    ·
      exact frs_t hR (fw_mayStand_69 hself26 hf) (fun _ h => h) (fun _ h => h)
    ·
      obtain ⟨-, hf⟩ := m_chkE hf
      obtain ⟨v3, ev, hf⟩ := m_bndE hf
      clear ev
      obtain ⟨or4, ho, hf⟩ := m_clE hf
      replace hR := frs_t hR (fw_kind ho) (by decide) (by decide)
      clear ho
      rcases m_ifE hf with ⟨-, hf⟩ | ⟨-, hf⟩
      ·
        exact frs_t hR (fw_mayStand_69 hself26 hf) (fun _ h => h) (fun _ h => h)
      ·
        obtain ⟨v5, ev, hf⟩ := m_bndE hf
        clear ev
        obtain ⟨-, hf⟩ := m_chkE hf
        obtain ⟨v6, ev, hf⟩ := m_bndE hf
        clear ev
        obtain ⟨or7, ho, hf⟩ := m_clE hf
        replace hR := frs_t hR (fw_kind ho) (by decide) (by decide)
        clear ho
        rcases m_ifE hf with ⟨-, hf⟩ | ⟨-, hf⟩
        ·
          exact frs_t hR (fw_mayStand_69 hself26 hf) (fun _ h => h) (fun _ h => h)
        ·
          exact frs_t hR (fw_mayStand_70 hself26 hf) (fun _ h => h) (fun _ h => h)
theorem fw_mayStand_26   (n : Nat) : ∀ (y0 : Int32) (y1 : Int32) (I : Nat → Int32) (A : Nat → Nat → Int32) (o : Int32 × MS), f_mayStand_26  n y0 y1 I A = some o → FrS [] [] I A o.2.1 o.2.2 := by
  induction n with
  | zero => intro y0 y1 I A o hf; cases hf
  | succ n ih => intro y0 y1 I A o hf; exact fw_mayStand_26s  ih hf
theorem fw_mayStand_0 {o : Int32 × MS} {I : Nat → Int32} {A : Nat → Nat → Int32}  (hf : f_mayStand_0 I A = some o) : FrS [] [] I A o.2.1 o.2.2 := by
  have hR : FrS [] [] I A I A := frs_0
  unfold f_mayStand_0 at hf
  obtain ⟨or1, ho, hf⟩ := m_clE hf
  replace hR := frs_t hR (fw_countOf ho) (by decide) (by decide)
  clear ho
  rcases m_ifE hf with ⟨-, hf⟩ | ⟨-, hf⟩
  ·
    obtain ⟨or2, ho, hf⟩ := m_clE hf
    replace hR := frs_t hR (fw_countOf ho) (by decide) (by decide)
    clear ho
    rcases m_ifE hf with ⟨-, hf⟩ | ⟨-, hf⟩
    ·
      exact frs_t hR (fw_mayStand_26  mFuel _ _ _ _ _ hf) (fun _ h => h) (fun _ h => h)
    ·
      exact frs_t hR (fw_mayStand_20  hf) (fun _ h => h) (fun _ h => h)
  ·
    exact frs_t hR (fw_mayStand_20  hf) (fun _ h => h) (fun _ h => h)
theorem fw_mayStand {o : Int32 × MS}  {I : Nat → Int32} {A : Nat → Nat → Int32} (hf : f_mayStand  I A = some o) : FrS [] [] I A o.2.1 o.2.2 := fw_mayStand_0  hf
theorem fw_readPosition_289 {o : Int32 × MS} {t0 : Int32} {I : Nat → Int32} {A : Nat → Nat → Int32}  (hf : f_readPosition_289 t0 I A = some o) : FrS [25, 26, 27, 28, 29, 38, 39] [24] I A o.2.1 o.2.2 := by
  have hR : FrS [25, 26, 27, 28, 29, 38, 39] [24] I A I A := frs_0
  unfold f_readPosition_289 at hf
  obtain ⟨-, hf⟩ := m_chkE hf
  cases hf
  exact hR
theorem fw_readPosition_288 {o : Int32 × MS} {I : Nat → Int32} {A : Nat → Nat → Int32}  (hf : f_readPosition_288 I A = some o) : FrS [25, 26, 27, 28, 29, 38, 39] [24] I A o.2.1 o.2.2 := by
  have hR : FrS [25, 26, 27, 28, 29, 38, 39] [24] I A I A := frs_0
  unfold f_readPosition_288 at hf
  exact frs_t hR (fw_readPosition_289  hf) (fun _ h => h) (fun _ h => h)
theorem fw_readPosition_252 {o : Int32 × MS} {x3 : Int32} {t0 : Int32} {I : Nat → Int32} {A : Nat → Nat → Int32}  (hf : f_readPosition_252 x3 t0 I A = some o) : FrS [25, 26, 27, 28, 29, 38, 39] [24] I A o.2.1 o.2.2 := by
  have hR : FrS [25, 26, 27, 28, 29, 38, 39] [24] I A I A := frs_0
  unfold f_readPosition_252 at hf
  obtain ⟨I1, ev, hf⟩ := m_bndE hf
  replace hR := frs_I hR (by decide) ev
  clear ev
  rcases m_ifE hf with ⟨-, hf⟩ | ⟨-, hf⟩
  ·
    exact frs_t hR (fw_readPosition_288  hf) (fun _ h => h) (fun _ h => h)
  ·
    rcases m_ifE hf with ⟨-, hf⟩ | ⟨-, hf⟩
    ·
      exact frs_t hR (fw_readPosition_288  hf) (fun _ h => h) (fun _ h => h)
    ·
      rcases m_ifE hf with ⟨-, hf⟩ | ⟨-, hf⟩
      ·
        obtain ⟨or2, ho, hf⟩ := m_clE hf
        replace hR := frs_t hR (fw_mayStand ho) (by decide) (by decide)
        clear ho
        rcases m_ifE hf with ⟨-, hf⟩ | ⟨-, hf⟩
        ·
          exact frs_t hR (fw_readPosition_288  hf) (fun _ h => h) (fun _ h => h)
        ·
          exact frs_t hR (fw_readPosition_289  hf) (fun _ h => h) (fun _ h => h)
      ·
        exact frs_t hR (fw_readPosition_288  hf) (fun _ h => h) (fun _ h => h)
theorem fw_readPosition_238 {o : Int32 × MS} {t0 : Int32} {I : Nat → Int32} {A : Nat → Nat → Int32}  (hf : f_readPosition_238 t0 I A = some o) : FrS [25, 26, 27, 28, 29, 38, 39] [24] I A o.2.1 o.2.2 := by
  have hR : FrS [25, 26, 27, 28, 29, 38, 39] [24] I A I A := frs_0
  unfold f_readPosition_238 at hf
  rcases m_ifE hf with ⟨-, hf⟩ | ⟨-, hf⟩
  ·
    exact frs_t hR (fw_readPosition_252  hf) (fun _ h => h) (fun _ h => h)
  ·
    obtain ⟨or1, ho, hf⟩ := m_clE hf
    replace hR := frs_t hR (fw_readNumber ho) (by decide) (by decide)
    clear ho
    exact frs_t hR (fw_readPosition_252  hf) (fun _ h => h) (fun _ h => h)
theorem fw_readPosition_237 {o : Int32 × MS} {I : Nat → Int32} {A : Nat → Nat → Int32}  (hf : f_readPosition_237 I A = some o) : FrS [25, 26, 27, 28, 29, 38, 39] [24] I A o.2.1 o.2.2 := by
  have hR : FrS [25, 26, 27, 28, 29, 38, 39] [24] I A I A := frs_0
  unfold f_readPosition_237 at hf
  exact frs_t hR (fw_readPosition_238  hf) (fun _ h => h) (fun _ h => h)
theorem fw_readPosition_210 {o : Int32 × MS} {x3 : Int32} {t0 : Int32} {I : Nat → Int32} {A : Nat → Nat → Int32}  (hf : f_readPosition_210 x3 t0 I A = some o) : FrS [25, 26, 27, 28, 29, 38, 39] [24] I A o.2.1 o.2.2 := by
  have hR : FrS [25, 26, 27, 28, 29, 38, 39] [24] I A I A := frs_0
  unfold f_readPosition_210 at hf
  obtain ⟨I1, ev, hf⟩ := m_bndE hf
  replace hR := frs_I hR (by decide) ev
  clear ev
  rcases m_ifE hf with ⟨-, hf⟩ | ⟨-, hf⟩
  ·
    exact frs_t hR (fw_readPosition_237  hf) (fun _ h => h) (fun _ h => h)
  ·
    rcases m_ifE hf with ⟨-, hf⟩ | ⟨-, hf⟩
    ·
      exact frs_t hR (fw_readPosition_237  hf) (fun _ h => h) (fun _ h => h)
    ·
      obtain ⟨or2, ho, hf⟩ := m_clE hf
      replace hR := frs_t hR (fw_pass ho) (by decide) (by decide)
      clear ho
      rcases m_ifE hf with ⟨-, hf⟩ | ⟨-, hf⟩
      ·
        exact frs_t hR (fw_readPosition_237  hf) (fun _ h => h) (fun _ h => h)
      ·
        exact frs_t hR (fw_readPosition_238  hf) (fun _ h => h) (fun _ h => h)
theorem fw_readPosition_196 {o : Int32 × MS} {t0 : Int32} {I : Nat → Int32} {A : Nat → Nat → Int32}  (hf : f_readPosition_196 t0 I A = some o) : FrS [25, 26, 27, 28, 29, 38, 39] [24] I A o.2.1 o.2.2 := by
  have hR : FrS [25, 26, 27, 28, 29, 38, 39] [24] I A I A := frs_0
  unfold f_readPosition_196 at hf
  rcases m_ifE hf with ⟨-, hf⟩ | ⟨-, hf⟩
  ·
    exact frs_t hR (fw_readPosition_210  hf) (fun _ h => h) (fun _ h => h)
  ·
    obtain ⟨or1, ho, hf⟩ := m_clE hf
    replace hR := frs_t hR (fw_readNumber ho) (by decide) (by decide)
    clear ho
    exact frs_t hR (fw_readPosition_210  hf) (fun _ h => h) (fun _ h => h)
theorem fw_readPosition_195 {o : Int32 × MS} {I : Nat → Int32} {A : Nat → Nat → Int32}  (hf : f_readPosition_195 I A = some o) : FrS [25, 26, 27, 28, 29, 38, 39] [24] I A o.2.1 o.2.2 := by
  have hR : FrS [25, 26, 27, 28, 29, 38, 39] [24] I A I A := frs_0
  unfold f_readPosition_195 at hf
  exact frs_t hR (fw_readPosition_196  hf) (fun _ h => h) (fun _ h => h)
theorem fw_readPosition_135 {o : Int32 × MS} {t0 : Int32} {I : Nat → Int32} {A : Nat → Nat → Int32}  (hf : f_readPosition_135 t0 I A = some o) : FrS [25, 26, 27, 28, 29, 38, 39] [24] I A o.2.1 o.2.2 := by
  have hR : FrS [25, 26, 27, 28, 29, 38, 39] [24] I A I A := frs_0
  unfold f_readPosition_135 at hf
  obtain ⟨v1, ev, hf⟩ := m_bndE hf
  clear ev
  obtain ⟨I2, ev, hf⟩ := m_bndE hf
  replace hR := frs_I hR (by decide) ev
  clear ev
  rcases m_ifE hf with ⟨-, hf⟩ | ⟨-, hf⟩
  ·
    exact frs_t hR (fw_readPosition_195  hf) (fun _ h => h) (fun _ h => h)
  ·
    obtain ⟨or3, ho, hf⟩ := m_clE hf
    replace hR := frs_t hR (fw_pass ho) (by decide) (by decide)
    clear ho
    rcases m_ifE hf with ⟨-, hf⟩ | ⟨-, hf⟩
    ·
      exact frs_t hR (fw_readPosition_195  hf) (fun _ h => h) (fun _ h => h)
    ·
      obtain ⟨or4, ho, hf⟩ := m_clE hf
      replace hR := frs_t hR (fw_readRights ho) (by decide) (by decide)
      clear ho
      rcases m_ifE hf with ⟨-, hf⟩ | ⟨-, hf⟩
      ·
        exact frs_t hR (fw_readPosition_195  hf) (fun _ h => h) (fun _ h => h)
      ·
        obtain ⟨or5, ho, hf⟩ := m_clE hf
        replace hR := frs_t hR (fw_pass ho) (by decide) (by decide)
        clear ho
        rcases m_ifE hf with ⟨-, hf⟩ | ⟨-, hf⟩
        ·
          exact frs_t hR (fw_readPosition_195  hf) (fun _ h => h) (fun _ h => h)
        ·
          obtain ⟨or6, ho, hf⟩ := m_clE hf
          replace hR := frs_t hR (fw_readPassed ho) (by decide) (by decide)
          clear ho
          rcases m_ifE hf with ⟨-, hf⟩ | ⟨-, hf⟩
          ·
            exact frs_t hR (fw_readPosition_195  hf) (fun _ h => h) (fun _ h => h)
          ·
            obtain ⟨or7, ho, hf⟩ := m_clE hf
            replace hR := frs_t hR (fw_pass ho) (by decide) (by decide)
            clear ho
            rcases m_ifE hf with ⟨-, hf⟩ | ⟨-, hf⟩
            ·
              exact frs_t hR (fw_readPosition_195  hf) (fun _ h => h) (fun _ h => h)
            ·
              exact frs_t hR (fw_readPosition_196  hf) (fun _ h => h) (fun _ h => h)
theorem fw_readPosition_130 {o : Int32 × MS} {I : Nat → Int32} {A : Nat → Nat → Int32}  (hf : f_readPosition_130 I A = some o) : FrS [25, 26, 27, 28, 29, 38, 39] [24] I A o.2.1 o.2.2 := by
  have hR : FrS [25, 26, 27, 28, 29, 38, 39] [24] I A I A := frs_0
  unfold f_readPosition_130 at hf
  exact frs_t hR (fw_readPosition_135  hf) (fun _ h => h) (fun _ h => h)
theorem fw_readPosition_109 {o : Int32 × MS} {t0 : Int32} {I : Nat → Int32} {A : Nat → Nat → Int32}  (hf : f_readPosition_109 t0 I A = some o) : FrS [25, 26, 27, 28, 29, 38, 39] [24] I A o.2.1 o.2.2 := by
  have hR : FrS [25, 26, 27, 28, 29, 38, 39] [24] I A I A := frs_0
  unfold f_readPosition_109 at hf
  obtain ⟨I1, ev, hf⟩ := m_bndE hf
  replace hR := frs_I hR (by decide) ev
  clear ev
  obtain ⟨or2, ho, hf⟩ := m_clE hf
  replace hR := frs_t hR (fw_sign ho) (by decide) (by decide)
  clear ho
  rcases m_ifE hf with ⟨-, hf⟩ | ⟨-, hf⟩
  ·
    exact frs_t hR (fw_readPosition_130  hf) (fun _ h => h) (fun _ h => h)
  ·
    obtain ⟨or3, ho, hf⟩ := m_clE hf
    replace hR := frs_t hR (fw_sign ho) (by decide) (by decide)
    clear ho
    rcases m_ifE hf with ⟨-, hf⟩ | ⟨-, hf⟩
    ·
      exact frs_t hR (fw_readPosition_130  hf) (fun _ h => h) (fun _ h => h)
    ·
      exact frs_t hR (fw_readPosition_135  hf) (fun _ h => h) (fun _ h => h)
theorem fw_readPosition_81 {o : Int32 × MS} {self39 : Int32 → Int32 → (Nat → Int32) → (Nat → Nat → Int32) → Option (Int32 × MS)} {x4 : Int32} {t0 : Int32} {I : Nat → Int32} {A : Nat → Nat → Int32} (hself39 : ∀ (z0 : Int32) (z1 : Int32) (I : Nat → Int32) (A : Nat → Nat → Int32) (o : Int32 × MS), self39 z0 z1 I A = some o → FrS [25, 26, 27, 28, 29, 38, 39] [24] I A o.2.1 o.2.2) (hf : f_readPosition_81 self39 x4 t0 I A = some o) : FrS [25, 26, 27, 28, 29, 38, 39] [24] I A o.2.1 o.2.2 := by
  have hR : FrS [25, 26, 27, 28, 29, 38, 39] [24] I A I A := frs_0
  unfold f_readPosition_81 at hf
  obtain ⟨v1, ev, hf⟩ := m_bndE hf
  clear ev
  exact frs_t hR (hself39 _ _ _ _ _ hf) (fun _ h => h) (fun _ h => h)
theorem fw_readPosition_80 {o : Int32 × MS} {self39 : Int32 → Int32 → (Nat → Int32) → (Nat → Nat → Int32) → Option (Int32 × MS)} {x4 : Int32} {I : Nat → Int32} {A : Nat → Nat → Int32} (hself39 : ∀ (z0 : Int32) (z1 : Int32) (I : Nat → Int32) (A : Nat → Nat → Int32) (o : Int32 × MS), self39 z0 z1 I A = some o → FrS [25, 26, 27, 28, 29, 38, 39] [24] I A o.2.1 o.2.2) (hf : f_readPosition_80 self39 x4 I A = some o) : FrS [25, 26, 27, 28, 29, 38, 39] [24] I A o.2.1 o.2.2 := by
  have hR : FrS [25, 26, 27, 28, 29, 38, 39] [24] I A I A := frs_0
  unfold f_readPosition_80 at hf
  exact frs_t hR (fw_readPosition_81 hself39 hf) (fun _ h => h) (fun _ h => h)
theorem fw_readPosition_70 {o : Int32 × MS} {self39 : Int32 → Int32 → (Nat → Int32) → (Nat → Nat → Int32) → Option (Int32 × MS)} {x4 : Int32} {t0 : Int32} {I : Nat → Int32} {A : Nat → Nat → Int32} (hself39 : ∀ (z0 : Int32) (z1 : Int32) (I : Nat → Int32) (A : Nat → Nat → Int32) (o : Int32 × MS), self39 z0 z1 I A = some o → FrS [25, 26, 27, 28, 29, 38, 39] [24] I A o.2.1 o.2.2) (hf : f_readPosition_70 self39 x4 t0 I A = some o) : FrS [25, 26, 27, 28, 29, 38, 39] [24] I A o.2.1 o.2.2 := by
  have hR : FrS [25, 26, 27, 28, 29, 38, 39] [24] I A I A := frs_0
  unfold f_readPosition_70 at hf
  obtain ⟨or1, ho, hf⟩ := m_clE hf
  replace hR := frs_t hR (fw_pass ho) (by decide) (by decide)
  clear ho
  rcases m_ifE hf with ⟨-, hf⟩ | ⟨-, hf⟩
  ·
    exact frs_t hR (fw_readPosition_80 hself39 hf) (fun _ h => h) (fun _ h => h)
  ·
    exact frs_t hR (fw_readPosition_81 hself39 hf) (fun _ h => h) (fun _ h => h)
theorem fw_readPosition_39s {o : Int32 × MS} {self39 : Int32 → Int32 → (Nat → Int32) → (Nat → Nat → Int32) → Option (Int32 × MS)} {x3 : Int32} {x4 : Int32} {I : Nat → Int32} {A : Nat → Nat → Int32} (hself39 : ∀ (z0 : Int32) (z1 : Int32) (I : Nat → Int32) (A : Nat → Nat → Int32) (o : Int32 × MS), self39 z0 z1 I A = some o → FrS [25, 26, 27, 28, 29, 38, 39] [24] I A o.2.1 o.2.2) (hf : f_readPosition_39s self39 x3 x4 I A = some o) : FrS [25, 26, 27, 28, 29, 38, 39] [24] I A o.2.1 o.2.2 := by
  have hR : FrS [25, 26, 27, 28, 29, 38, 39] [24] I A I A := frs_0
  unfold f_readPosition_39s at hf
  rcases m_ifE hf with ⟨-, hf⟩ | ⟨-, hf⟩
  ·
    rcases m_ifE hf with ⟨-, hf⟩ | ⟨-, hf⟩
    ·
      obtain ⟨-, hf⟩ := m_chkE hf
      cases hf
      exact hR
    ·
      obtain ⟨or1, ho, hf⟩ := m_clE hf
      replace hR := frs_t hR (fw_sign ho) (by decide) (by decide)
      clear ho
      rcases m_ifE hf with ⟨-, hf⟩ | ⟨-, hf⟩
      ·
        exact frs_t hR (fw_readPosition_109  hf) (fun _ h => h) (fun _ h => h)
      ·
        exact frs_t hR (fw_readPosition_109  hf) (fun _ h => h) (fun _ h => h)
  ·
    rcases m_ifE hf with ⟨-, hf⟩ | ⟨-, hf⟩
    ·
      exact frs_t hR (fw_readPosition_80 hself39 hf) (fun _ h => h) (fun _ h => h)
    ·
      obtain ⟨or2, ho, hf⟩ := m_clE hf
      replace hR := frs_t hR (fw_readRank ho) (by decide) (by decide)
      clear ho
      rcases m_ifE hf with ⟨-, hf⟩ | ⟨-, hf⟩
      ·
        exact frs_t hR (fw_readPosition_80 hself39 hf) (fun _ h => h) (fun _ h => h)
      ·
        rcases m_ifE hf with ⟨-, hf⟩ | ⟨-, hf⟩
        ·
          exact frs_t hR (fw_readPosition_70 hself39 hf) (fun _ h => h) (fun _ h => h)
        ·
          exact frs_t hR (fw_readPosition_70 hself39 hf) (fun _ h => h) (fun _ h => h)
theorem fw_readPosition_39   (n : Nat) : ∀ (y0 : Int32) (y1 : Int32) (I : Nat → Int32) (A : Nat → Nat → Int32) (o : Int32 × MS), f_readPosition_39  n y0 y1 I A = some o → FrS [25, 26, 27, 28, 29, 38, 39] [24] I A o.2.1 o.2.2 := by
  induction n with
  | zero => intro y0 y1 I A o hf; cases hf
  | succ n ih => intro y0 y1 I A o hf; exact fw_readPosition_39s  ih hf
theorem fw_readPosition_14s {o : Int32 × MS} {self14 : Int32 → (Nat → Int32) → (Nat → Nat → Int32) → Option (Int32 × MS)} {x3 : Int32} {I : Nat → Int32} {A : Nat → Nat → Int32} (hself14 : ∀ (z0 : Int32) (I : Nat → Int32) (A : Nat → Nat → Int32) (o : Int32 × MS), self14 z0 I A = some o → FrS [25, 26, 27, 28, 29, 38, 39] [24] I A o.2.1 o.2.2) (hf : f_readPosition_14s self14 x3 I A = some o) : FrS [25, 26, 27, 28, 29, 38, 39] [24] I A o.2.1 o.2.2 := by
  have hR : FrS [25, 26, 27, 28, 29, 38, 39] [24] I A I A := frs_0
  unfold f_readPosition_14s at hf
  rcases m_ifE hf with ⟨-, hf⟩ | ⟨-, hf⟩
  ·
    exact frs_t hR (fw_readPosition_39  mFuel _ _ _ _ _ hf) (fun _ h => h) (fun _ h => h)
  ·
    obtain ⟨-, hf⟩ := m_chkE hf
    obtain ⟨A1, ev, hf⟩ := m_bndE hf
    replace hR := frs_A hR (by decide) ev
    clear ev
    obtain ⟨v2, ev, hf⟩ := m_bndE hf
    clear ev
    exact frs_t hR (hself14 _ _ _ _ hf) (fun _ h => h) (fun _ h => h)
theorem fw_readPosition_14   (n : Nat) : ∀ (y0 : Int32) (I : Nat → Int32) (A : Nat → Nat → Int32) (o : Int32 × MS), f_readPosition_14  n y0 I A = some o → FrS [25, 26, 27, 28, 29, 38, 39] [24] I A o.2.1 o.2.2 := by
  induction n with
  | zero => intro y0 I A o hf; cases hf
  | succ n ih => intro y0 I A o hf; exact fw_readPosition_14s  ih hf
theorem fw_readPosition_0 {o : Int32 × MS} {x1 : Int32} {x2 : Int32} {I : Nat → Int32} {A : Nat → Nat → Int32}  (hf : f_readPosition_0 x1 x2 I A = some o) : FrS [25, 26, 27, 28, 29, 38, 39] [24] I A o.2.1 o.2.2 := by
  have hR : FrS [25, 26, 27, 28, 29, 38, 39] [24] I A I A := frs_0
  unfold f_readPosition_0 at hf
  obtain ⟨I1, ev, hf⟩ := m_bndE hf
  replace hR := frs_I hR (by decide) ev
  clear ev
  obtain ⟨v2, ev, hf⟩ := m_bndE hf
  clear ev
  obtain ⟨I3, ev, hf⟩ := m_bndE hf
  replace hR := frs_I hR (by decide) ev
  clear ev
  exact frs_t hR (fw_readPosition_14  mFuel _ _ _ _ hf) (fun _ h => h) (fun _ h => h)
theorem fw_readPosition {o : Int32 × MS} {x1 : Int32} {x2 : Int32} {I : Nat → Int32} {A : Nat → Nat → Int32} (hf : f_readPosition x1 x2 I A = some o) : FrS [25, 26, 27, 28, 29, 38, 39] [24] I A o.2.1 o.2.2 := fw_readPosition_0  hf
theorem fw_look_24 {o : Int32 × MS} {t0 : Int32} {I : Nat → Int32} {A : Nat → Nat → Int32}  (hf : f_look_24 t0 I A = some o) : FrS [] [] I A o.2.1 o.2.2 := by
  have hR : FrS [] [] I A I A := frs_0
  unfold f_look_24 at hf
  obtain ⟨-, hf⟩ := m_chkE hf
  cases hf
  exact hR
theorem fw_look_0 {o : Int32 × MS} {I : Nat → Int32} {A : Nat → Nat → Int32}  (hf : f_look_0 I A = some o) : FrS [] [] I A o.2.1 o.2.2 := by
  have hR : FrS [] [] I A I A := frs_0
  unfold f_look_0 at hf
  rcases m_ifE hf with ⟨-, hf⟩ | ⟨-, hf⟩
  ·
    exact frs_t hR (fw_look_24  hf) (fun _ h => h) (fun _ h => h)
  ·
    obtain ⟨-, hf⟩ := m_chkE hf
    obtain ⟨v1, ev, hf⟩ := m_bndE hf
    clear ev
    exact frs_t hR (fw_look_24  hf) (fun _ h => h) (fun _ h => h)
theorem fw_look {o : Int32 × MS}  {I : Nat → Int32} {A : Nat → Nat → Int32} (hf : f_look  I A = some o) : FrS [] [] I A o.2.1 o.2.2 := fw_look_0  hf
theorem fw_blanks_52 {o : Int32 × MS} {I : Nat → Int32} {A : Nat → Nat → Int32}  (hf : f_blanks_52 I A = some o) : FrS [37] [] I A o.2.1 o.2.2 := by
  have hR : FrS [37] [] I A I A := frs_0
  unfold f_blanks_52 at hf
  cases hf
  exact hR
theorem fw_blanks_39 {o : Int32 × MS} {self0 : (Nat → Int32) → (Nat → Nat → Int32) → Option (Int32 × MS)} {I : Nat → Int32} {A : Nat → Nat → Int32} (hself0 : ∀  (I : Nat → Int32) (A : Nat → Nat → Int32) (o : Int32 × MS), self0  I A = some o → FrS [37] [] I A o.2.1 o.2.2) (hf : f_blanks_39 self0 I A = some o) : FrS [37] [] I A o.2.1 o.2.2 := by
  have hR : FrS [37] [] I A I A := frs_0
  unfold f_blanks_39 at hf
  obtain ⟨v1, ev, hf⟩ := m_bndE hf
  clear ev
  obtain ⟨I2, ev, hf⟩ := m_bndE hf
  replace hR := frs_I hR (by decide) ev
  clear ev
  exact frs_t hR (hself0 _ _ _ hf) (fun _ h => h) (fun _ h => h)
theorem fw_blanks_0s {o : Int32 × MS} {self0 : (Nat → Int32) → (Nat → Nat → Int32) → Option (Int32 × MS)} {I : Nat → Int32} {A : Nat → Nat → Int32} (hself0 : ∀  (I : Nat → Int32) (A : Nat → Nat → Int32) (o : Int32 × MS), self0  I A = some o → FrS [37] [] I A o.2.1 o.2.2) (hf : f_blanks_0s self0 I A = some o) : FrS [37] [] I A o.2.1 o.2.2 := by
  have hR : FrS [37] [] I A I A := frs_0
  unfold f_blanks_0s at hf
  rcases m_ifE hf with ⟨-, hf⟩ | ⟨-, hf⟩
  ·
    exact frs_t hR (fw_blanks_52  hf) (fun _ h => h) (fun _ h => h)
  ·
    obtain ⟨-, hf⟩ := m_chkE hf
    obtain ⟨v1, ev, hf⟩ := m_bndE hf
    clear ev
    rcases m_ifE hf with ⟨-, hf⟩ | ⟨-, hf⟩
    ·
      exact frs_t hR (fw_blanks_39 hself0 hf) (fun _ h => h) (fun _ h => h)
    ·
      obtain ⟨-, hf⟩ := m_chkE hf
      obtain ⟨v2, ev, hf⟩ := m_bndE hf
      clear ev
      rcases m_ifE hf with ⟨-, hf⟩ | ⟨-, hf⟩
      ·
        exact frs_t hR (fw_blanks_39 hself0 hf) (fun _ h => h) (fun _ h => h)
      ·
        exact frs_t hR (fw_blanks_52  hf) (fun _ h => h) (fun _ h => h)
theorem fw_blanks_0   (n : Nat) : ∀  (I : Nat → Int32) (A : Nat → Nat → Int32) (o : Int32 × MS), f_blanks_0  n  I A = some o → FrS [37] [] I A o.2.1 o.2.2 := by
  induction n with
  | zero => intro  I A o hf; cases hf
  | succ n ih => intro  I A o hf; exact fw_blanks_0s  ih hf
theorem fw_blanks {o : Int32 × MS}  {I : Nat → Int32} {A : Nat → Nat → Int32} (hf : f_blanks  I A = some o) : FrS [37] [] I A o.2.1 o.2.2 := fw_blanks_0 mFuel  _ _ _ hf
theorem fw_fault_0 {o : Int32 × MS} {x0 : Int32} {x1 : Int32} {I : Nat → Int32} {A : Nat → Nat → Int32}  (hf : f_fault_0 x0 x1 I A = some o) : FrS [] [] I A o.2.1 o.2.2 := by
  have hR : FrS [] [] I A I A := frs_0
  unfold f_fault_0 at hf
  obtain ⟨v1, ev, hf⟩ := m_bndE hf
  clear ev
  obtain ⟨v2, ev, hf⟩ := m_bndE hf
  clear ev
  cases hf
  exact hR
theorem fw_fault {o : Int32 × MS} {x0 : Int32} {x1 : Int32} {I : Nat → Int32} {A : Nat → Nat → Int32} (hf : f_fault x0 x1 I A = some o) : FrS [] [] I A o.2.1 o.2.2 := fw_fault_0  hf
theorem fw_isLetter_29 {o : Int32 × MS} {t0 : Int32} {I : Nat → Int32} {A : Nat → Nat → Int32}  (hf : f_isLetter_29 t0 I A = some o) : FrS [] [] I A o.2.1 o.2.2 := by
  have hR : FrS [] [] I A I A := frs_0
  unfold f_isLetter_29 at hf
  obtain ⟨-, hf⟩ := m_chkE hf
  cases hf
  exact hR
theorem fw_isLetter_28 {o : Int32 × MS} {I : Nat → Int32} {A : Nat → Nat → Int32}  (hf : f_isLetter_28 I A = some o) : FrS [] [] I A o.2.1 o.2.2 := by
  have hR : FrS [] [] I A I A := frs_0
  unfold f_isLetter_28 at hf
  exact frs_t hR (fw_isLetter_29  hf) (fun _ h => h) (fun _ h => h)
theorem fw_isLetter_24 {o : Int32 × MS} {I : Nat → Int32} {A : Nat → Nat → Int32}  (hf : f_isLetter_24 I A = some o) : FrS [] [] I A o.2.1 o.2.2 := by
  have hR : FrS [] [] I A I A := frs_0
  unfold f_isLetter_24 at hf
  exact frs_t hR (fw_isLetter_29  hf) (fun _ h => h) (fun _ h => h)
theorem fw_isLetter_12 {o : Int32 × MS} {x0 : Int32} {I : Nat → Int32} {A : Nat → Nat → Int32}  (hf : f_isLetter_12 x0 I A = some o) : FrS [] [] I A o.2.1 o.2.2 := by
  have hR : FrS [] [] I A I A := frs_0
  unfold f_isLetter_12 at hf
  rcases m_ifE hf with ⟨-, hf⟩ | ⟨-, hf⟩
  ·
    exact frs_t hR (fw_isLetter_28  hf) (fun _ h => h) (fun _ h => h)
  ·
    rcases m_ifE hf with ⟨-, hf⟩ | ⟨-, hf⟩
    ·
      exact frs_t hR (fw_isLetter_28  hf) (fun _ h => h) (fun _ h => h)
    ·
      exact frs_t hR (fw_isLetter_24  hf) (fun _ h => h) (fun _ h => h)
theorem fw_isLetter_0 {o : Int32 × MS} {x0 : Int32} {I : Nat → Int32} {A : Nat → Nat → Int32}  (hf : f_isLetter_0 x0 I A = some o) : FrS [] [] I A o.2.1 o.2.2 := by
  have hR : FrS [] [] I A I A := frs_0
  unfold f_isLetter_0 at hf
  rcases m_ifE hf with ⟨-, hf⟩ | ⟨-, hf⟩
  ·
    exact frs_t hR (fw_isLetter_12  hf) (fun _ h => h) (fun _ h => h)
  ·
    rcases m_ifE hf with ⟨-, hf⟩ | ⟨-, hf⟩
    ·
      exact frs_t hR (fw_isLetter_24  hf) (fun _ h => h) (fun _ h => h)
    ·
      exact frs_t hR (fw_isLetter_12  hf) (fun _ h => h) (fun _ h => h)
theorem fw_isLetter {o : Int32 × MS} {x0 : Int32} {I : Nat → Int32} {A : Nat → Nat → Int32} (hf : f_isLetter x0 I A = some o) : FrS [] [] I A o.2.1 o.2.2 := fw_isLetter_0  hf
theorem fw_isDigit_17 {o : Int32 × MS} {t0 : Int32} {I : Nat → Int32} {A : Nat → Nat → Int32}  (hf : f_isDigit_17 t0 I A = some o) : FrS [] [] I A o.2.1 o.2.2 := by
  have hR : FrS [] [] I A I A := frs_0
  unfold f_isDigit_17 at hf
  obtain ⟨-, hf⟩ := m_chkE hf
  cases hf
  exact hR
theorem fw_isDigit_16 {o : Int32 × MS} {I : Nat → Int32} {A : Nat → Nat → Int32}  (hf : f_isDigit_16 I A = some o) : FrS [] [] I A o.2.1 o.2.2 := by
  have hR : FrS [] [] I A I A := frs_0
  unfold f_isDigit_16 at hf
  exact frs_t hR (fw_isDigit_17  hf) (fun _ h => h) (fun _ h => h)
theorem fw_isDigit_0 {o : Int32 × MS} {x0 : Int32} {I : Nat → Int32} {A : Nat → Nat → Int32}  (hf : f_isDigit_0 x0 I A = some o) : FrS [] [] I A o.2.1 o.2.2 := by
  have hR : FrS [] [] I A I A := frs_0
  unfold f_isDigit_0 at hf
  rcases m_ifE hf with ⟨-, hf⟩ | ⟨-, hf⟩
  ·
    exact frs_t hR (fw_isDigit_16  hf) (fun _ h => h) (fun _ h => h)
  ·
    rcases m_ifE hf with ⟨-, hf⟩ | ⟨-, hf⟩
    ·
      exact frs_t hR (fw_isDigit_16  hf) (fun _ h => h) (fun _ h => h)
    ·
      exact frs_t hR (fw_isDigit_17  hf) (fun _ h => h) (fun _ h => h)
theorem fw_isDigit {o : Int32 × MS} {x0 : Int32} {I : Nat → Int32} {A : Nat → Nat → Int32} (hf : f_isDigit x0 I A = some o) : FrS [] [] I A o.2.1 o.2.2 := fw_isDigit_0  hf
theorem fw_isTag_173 {o : Int32 × MS} {x5 : Int32} {I : Nat → Int32} {A : Nat → Nat → Int32}  (hf : f_isTag_173 x5 I A = some o) : FrS [] [] I A o.2.1 o.2.2 := by
  have hR : FrS [] [] I A I A := frs_0
  unfold f_isTag_173 at hf
  obtain ⟨-, hf⟩ := m_chkE hf
  cases hf
  exact hR
theorem fw_isTag_165 {o : Int32 × MS} {self38 : Int32 → Int32 → Int32 → Int32 → Int32 → Int32 → (Nat → Int32) → (Nat → Nat → Int32) → Option (Int32 × MS)} {x1 : Int32} {x2 : Int32} {x3 : Int32} {x4 : Int32} {x6 : Int32} {t0 : Int32} {I : Nat → Int32} {A : Nat → Nat → Int32} (hself38 : ∀ (z0 : Int32) (z1 : Int32) (z2 : Int32) (z3 : Int32) (z4 : Int32) (z5 : Int32) (I : Nat → Int32) (A : Nat → Nat → Int32) (o : Int32 × MS), self38 z0 z1 z2 z3 z4 z5 I A = some o → FrS [] [] I A o.2.1 o.2.2) (hf : f_isTag_165 self38 x1 x2 x3 x4 x6 t0 I A = some o) : FrS [] [] I A o.2.1 o.2.2 := by
  have hR : FrS [] [] I A I A := frs_0
  unfold f_isTag_165 at hf
  obtain ⟨v1, ev, hf⟩ := m_bndE hf
  clear ev
  exact frs_t hR (hself38 _ _ _ _ _ _ _ _ _ hf) (fun _ h => h) (fun _ h => h)
theorem fw_isTag_136 {o : Int32 × MS} {self38 : Int32 → Int32 → Int32 → Int32 → Int32 → Int32 → (Nat → Int32) → (Nat → Nat → Int32) → Option (Int32 × MS)} {x1 : Int32} {x2 : Int32} {x3 : Int32} {x4 : Int32} {x6 : Int32} {t0 : Int32} {I : Nat → Int32} {A : Nat → Nat → Int32} (hself38 : ∀ (z0 : Int32) (z1 : Int32) (z2 : Int32) (z3 : Int32) (z4 : Int32) (z5 : Int32) (I : Nat → Int32) (A : Nat → Nat → Int32) (o : Int32 × MS), self38 z0 z1 z2 z3 z4 z5 I A = some o → FrS [] [] I A o.2.1 o.2.2) (hf : f_isTag_136 self38 x1 x2 x3 x4 x6 t0 I A = some o) : FrS [] [] I A o.2.1 o.2.2 := by
  have hR : FrS [] [] I A I A := frs_0
  unfold f_isTag_136 at hf
  obtain ⟨v1, ev, hf⟩ := m_bndE hf
  clear ev
  obtain ⟨v2, ev, hf⟩ := m_bndE hf
  clear ev
  obtain ⟨v3, ev, hf⟩ := m_bndE hf
  clear ev
  obtain ⟨v4, ev, hf⟩ := m_bndE hf
  clear ev
  obtain ⟨-, hf⟩ := m_chkE hf
  obtain ⟨v5, ev, hf⟩ := m_bndE hf
  clear ev
  rcases m_ifE hf with ⟨-, hf⟩ | ⟨-, hf⟩
  ·
    exact frs_t hR (fw_isTag_165 hself38 hf) (fun _ h => h) (fun _ h => h)
  ·
    exact frs_t hR (fw_isTag_165 hself38 hf) (fun _ h => h) (fun _ h => h)
theorem fw_isTag_38s {o : Int32 × MS} {self38 : Int32 → Int32 → Int32 → Int32 → Int32 → Int32 → (Nat → Int32) → (Nat → Nat → Int32) → Option (Int32 × MS)} {x1 : Int32} {x2 : Int32} {x3 : Int32} {x4 : Int32} {x5 : Int32} {x6 : Int32} {I : Nat → Int32} {A : Nat → Nat → Int32} (hself38 : ∀ (z0 : Int32) (z1 : Int32) (z2 : Int32) (z3 : Int32) (z4 : Int32) (z5 : Int32) (I : Nat → Int32) (A : Nat → Nat → Int32) (o : Int32 × MS), self38 z0 z1 z2 z3 z4 z5 I A = some o → FrS [] [] I A o.2.1 o.2.2) (hf : f_isTag_38s self38 x1 x2 x3 x4 x5 x6 I A = some o) : FrS [] [] I A o.2.1 o.2.2 := by
  have hR : FrS [] [] I A I A := frs_0
  unfold f_isTag_38s at hf
  rcases m_ifE hf with ⟨-, hf⟩ | ⟨-, hf⟩
  ·
    exact frs_t hR (fw_isTag_173  hf) (fun _ h => h) (fun _ h => h)
  ·
    rcases m_ifE hf with ⟨-, hf⟩ | ⟨-, hf⟩
    ·
      exact frs_t hR (fw_isTag_173  hf) (fun _ h => h) (fun _ h => h)
    ·
      rcases m_ifE hf with ⟨-, hf⟩ | ⟨-, hf⟩
      ·
        rcases m_ifE hf with ⟨-, hf⟩ | ⟨-, hf⟩
        ·
          exact frs_t hR (fw_isTag_136 hself38 hf) (fun _ h => h) (fun _ h => h)
        ·
          rcases m_ifE hf with ⟨-, hf⟩ | ⟨-, hf⟩
          ·
            exact frs_t hR (fw_isTag_136 hself38 hf) (fun _ h => h) (fun _ h => h)
          ·
            exact frs_t hR (fw_isTag_136 hself38 hf) (fun _ h => h) (fun _ h => h)
      ·
        rcases m_ifE hf with ⟨-, hf⟩ | ⟨-, hf⟩
        ·
          exact frs_t hR (fw_isTag_136 hself38 hf) (fun _ h => h) (fun _ h => h)
        ·
          rcases m_ifE hf with ⟨-, hf⟩ | ⟨-, hf⟩
          ·
            exact frs_t hR (fw_isTag_136 hself38 hf) (fun _ h => h) (fun _ h => h)
          ·
            rcases m_ifE hf with ⟨-, hf⟩ | ⟨-, hf⟩
            ·
              exact frs_t hR (fw_isTag_136 hself38 hf) (fun _ h => h) (fun _ h => h)
            ·
              rcases m_ifE hf with ⟨-, hf⟩ | ⟨-, hf⟩
              ·
                exact frs_t hR (fw_isTag_136 hself38 hf) (fun _ h => h) (fun _ h => h)
              ·
                rcases m_ifE hf with ⟨-, hf⟩ | ⟨-, hf⟩
                ·
                  exact frs_t hR (fw_isTag_136 hself38 hf) (fun _ h => h) (fun _ h => h)
                ·
                  exact frs_t hR (fw_isTag_136 hself38 hf) (fun _ h => h) (fun _ h => h)
theorem fw_isTag_38   (n : Nat) : ∀ (y0 : Int32) (y1 : Int32) (y2 : Int32) (y3 : Int32) (y4 : Int32) (y5 : Int32) (I : Nat → Int32) (A : Nat → Nat → Int32) (o : Int32 × MS), f_isTag_38  n y0 y1 y2 y3 y4 y5 I A = some o → FrS [] [] I A o.2.1 o.2.2 := by
  induction n with
  | zero => intro y0 y1 y2 y3 y4 y5 I A o hf; cases hf
  | succ n ih => intro y0 y1 y2 y3 y4 y5 I A o hf; exact fw_isTag_38s  ih hf
theorem fw_isTag_33 {o : Int32 × MS} {x1 : Int32} {x2 : Int32} {x3 : Int32} {x4 : Int32} {t0 : Int32} {I : Nat → Int32} {A : Nat → Nat → Int32}  (hf : f_isTag_33 x1 x2 x3 x4 t0 I A = some o) : FrS [] [] I A o.2.1 o.2.2 := by
  have hR : FrS [] [] I A I A := frs_0
  unfold f_isTag_33 at hf
  exact frs_t hR (fw_isTag_38  mFuel _ _ _ _ _ _ _ _ _ hf) (fun _ h => h) (fun _ h => h)
theorem fw_isTag_10 {o : Int32 × MS} {x1 : Int32} {x2 : Int32} {x3 : Int32} {t0 : Int32} {I : Nat → Int32} {A : Nat → Nat → Int32}  (hf : f_isTag_10 x1 x2 x3 t0 I A = some o) : FrS [] [] I A o.2.1 o.2.2 := by
  have hR : FrS [] [] I A I A := frs_0
  unfold f_isTag_10 at hf
  obtain ⟨v1, ev, hf⟩ := m_bndE hf
  clear ev
  obtain ⟨v2, ev, hf⟩ := m_bndE hf
  clear ev
  obtain ⟨-, hf⟩ := m_chkE hf
  obtain ⟨v3, ev, hf⟩ := m_bndE hf
  clear ev
  rcases m_ifE hf with ⟨-, hf⟩ | ⟨-, hf⟩
  ·
    exact frs_t hR (fw_isTag_33  hf) (fun _ h => h) (fun _ h => h)
  ·
    exact frs_t hR (fw_isTag_33  hf) (fun _ h => h) (fun _ h => h)
theorem fw_isTag_0 {o : Int32 × MS} {x1 : Int32} {x2 : Int32} {x3 : Int32} {I : Nat → Int32} {A : Nat → Nat → Int32}  (hf : f_isTag_0 x1 x2 x3 I A = some o) : FrS [] [] I A o.2.1 o.2.2 := by
  have hR : FrS [] [] I A I A := frs_0
  unfold f_isTag_0 at hf
  rcases m_ifE hf with ⟨-, hf⟩ | ⟨-, hf⟩
  ·
    exact frs_t hR (fw_isTag_10  hf) (fun _ h => h) (fun _ h => h)
  ·
    exact frs_t hR (fw_isTag_10  hf) (fun _ h => h) (fun _ h => h)
theorem fw_isTag {o : Int32 × MS} {x1 : Int32} {x2 : Int32} {x3 : Int32} {I : Nat → Int32} {A : Nat → Nat → Int32} (hf : f_isTag x1 x2 x3 I A = some o) : FrS [] [] I A o.2.1 o.2.2 := fw_isTag_0  hf
theorem fw_isNameThere_133 {o : Int32 × MS} {self5 : Int32 → Int32 → Int32 → Int32 → (Nat → Int32) → (Nat → Nat → Int32) → Option (Int32 × MS)} {x1 : Int32} {x2 : Int32} {x4 : Int32} {t0 : Int32} {I : Nat → Int32} {A : Nat → Nat → Int32} (hself5 : ∀ (z0 : Int32) (z1 : Int32) (z2 : Int32) (z3 : Int32) (I : Nat → Int32) (A : Nat → Nat → Int32) (o : Int32 × MS), self5 z0 z1 z2 z3 I A = some o → FrS [] [] I A o.2.1 o.2.2) (hf : f_isNameThere_133 self5 x1 x2 x4 t0 I A = some o) : FrS [] [] I A o.2.1 o.2.2 := by
  have hR : FrS [] [] I A I A := frs_0
  unfold f_isNameThere_133 at hf
  obtain ⟨v1, ev, hf⟩ := m_bndE hf
  clear ev
  exact frs_t hR (hself5 _ _ _ _ _ _ _ hf) (fun _ h => h) (fun _ h => h)
theorem fw_isNameThere_128 {o : Int32 × MS} {self5 : Int32 → Int32 → Int32 → Int32 → (Nat → Int32) → (Nat → Nat → Int32) → Option (Int32 × MS)} {x1 : Int32} {x2 : Int32} {x4 : Int32} {I : Nat → Int32} {A : Nat → Nat → Int32} (hself5 : ∀ (z0 : Int32) (z1 : Int32) (z2 : Int32) (z3 : Int32) (I : Nat → Int32) (A : Nat → Nat → Int32) (o : Int32 × MS), self5 z0 z1 z2 z3 I A = some o → FrS [] [] I A o.2.1 o.2.2) (hf : f_isNameThere_128 self5 x1 x2 x4 I A = some o) : FrS [] [] I A o.2.1 o.2.2 := by
  have hR : FrS [] [] I A I A := frs_0
  unfold f_isNameThere_128 at hf
  exact frs_t hR (fw_isNameThere_133 hself5 hf) (fun _ h => h) (fun _ h => h)
theorem fw_isNameThere_119 {o : Int32 × MS} {self5 : Int32 → Int32 → Int32 → Int32 → (Nat → Int32) → (Nat → Nat → Int32) → Option (Int32 × MS)} {x1 : Int32} {x2 : Int32} {x3 : Int32} {x4 : Int32} {x5 : Int32} {I : Nat → Int32} {A : Nat → Nat → Int32} (hself5 : ∀ (z0 : Int32) (z1 : Int32) (z2 : Int32) (z3 : Int32) (I : Nat → Int32) (A : Nat → Nat → Int32) (o : Int32 × MS), self5 z0 z1 z2 z3 I A = some o → FrS [] [] I A o.2.1 o.2.2) (hf : f_isNameThere_119 self5 x1 x2 x3 x4 x5 I A = some o) : FrS [] [] I A o.2.1 o.2.2 := by
  have hR : FrS [] [] I A I A := frs_0
  unfold f_isNameThere_119 at hf
  rcases m_ifE hf with ⟨-, hf⟩ | ⟨-, hf⟩
  ·
    rcases m_ifE hf with ⟨-, hf⟩ | ⟨-, hf⟩
    ·
      exact frs_t hR (fw_isNameThere_133 hself5 hf) (fun _ h => h) (fun _ h => h)
    ·
      exact frs_t hR (fw_isNameThere_128 hself5 hf) (fun _ h => h) (fun _ h => h)
  ·
    exact frs_t hR (fw_isNameThere_128 hself5 hf) (fun _ h => h) (fun _ h => h)
theorem fw_isNameThere_111 {o : Int32 × MS} {self5 : Int32 → Int32 → Int32 → Int32 → (Nat → Int32) → (Nat → Nat → Int32) → Option (Int32 × MS)} {self47 : Int32 → Int32 → Int32 → Int32 → Int32 → Int32 → (Nat → Int32) → (Nat → Nat → Int32) → Option (Int32 × MS)} {x1 : Int32} {x2 : Int32} {x3 : Int32} {x4 : Int32} {x6 : Int32} {t0 : Int32} {I : Nat → Int32} {A : Nat → Nat → Int32} (hself5 : ∀ (z0 : Int32) (z1 : Int32) (z2 : Int32) (z3 : Int32) (I : Nat → Int32) (A : Nat → Nat → Int32) (o : Int32 × MS), self5 z0 z1 z2 z3 I A = some o → FrS [] [] I A o.2.1 o.2.2) (hself47 : ∀ (z0 : Int32) (z1 : Int32) (z2 : Int32) (z3 : Int32) (z4 : Int32) (z5 : Int32) (I : Nat → Int32) (A : Nat → Nat → Int32) (o : Int32 × MS), self47 z0 z1 z2 z3 z4 z5 I A = some o → FrS [] [] I A o.2.1 o.2.2) (hf : f_isNameThere_111 self5 self47 x1 x2 x3 x4 x6 t0 I A = some o) : FrS [] [] I A o.2.1 o.2.2 := by
  have hR : FrS [] [] I A I A := frs_0
  unfold f_isNameThere_111 at hf
  obtain ⟨v1, ev, hf⟩ := m_bndE hf
  clear ev
  exact frs_t hR (hself47 _ _ _ _ _ _ _ _ _ hf) (fun _ h => h) (fun _ h => h)
theorem fw_isNameThere_47s {o : Int32 × MS} {self5 : Int32 → Int32 → Int32 → Int32 → (Nat → Int32) → (Nat → Nat → Int32) → Option (Int32 × MS)} {self47 : Int32 → Int32 → Int32 → Int32 → Int32 → Int32 → (Nat → Int32) → (Nat → Nat → Int32) → Option (Int32 × MS)} {x1 : Int32} {x2 : Int32} {x3 : Int32} {x4 : Int32} {x5 : Int32} {x6 : Int32} {I : Nat → Int32} {A : Nat → Nat → Int32} (hself5 : ∀ (z0 : Int32) (z1 : Int32) (z2 : Int32) (z3 : Int32) (I : Nat → Int32) (A : Nat → Nat → Int32) (o : Int32 × MS), self5 z0 z1 z2 z3 I A = some o → FrS [] [] I A o.2.1 o.2.2) (hself47 : ∀ (z0 : Int32) (z1 : Int32) (z2 : Int32) (z3 : Int32) (z4 : Int32) (z5 : Int32) (I : Nat → Int32) (A : Nat → Nat → Int32) (o : Int32 × MS), self47 z0 z1 z2 z3 z4 z5 I A = some o → FrS [] [] I A o.2.1 o.2.2) (hf : f_isNameThere_47s self5 self47 x1 x2 x3 x4 x5 x6 I A = some o) : FrS [] [] I A o.2.1 o.2.2 := by
  have hR : FrS [] [] I A I A := frs_0
  unfold f_isNameThere_47s at hf
  obtain ⟨v1, ev, hf⟩ := m_bndE hf
  clear ev
  obtain ⟨v2, ev, hf⟩ := m_bndE hf
  clear ev
  obtain ⟨-, hf⟩ := m_chkE hf
  obtain ⟨v3, ev, hf⟩ := m_bndE hf
  clear ev
  rcases m_ifE hf with ⟨-, hf⟩ | ⟨-, hf⟩
  ·
    exact frs_t hR (fw_isNameThere_119 hself5 hf) (fun _ h => h) (fun _ h => h)
  ·
    rcases m_ifE hf with ⟨-, hf⟩ | ⟨-, hf⟩
    ·
      exact frs_t hR (fw_isNameThere_119 hself5 hf) (fun _ h => h) (fun _ h => h)
    ·
      obtain ⟨v4, ev, hf⟩ := m_bndE hf
      clear ev
      obtain ⟨v5, ev, hf⟩ := m_bndE hf
      clear ev
      obtain ⟨v6, ev, hf⟩ := m_bndE hf
      clear ev
      obtain ⟨v7, ev, hf⟩ := m_bndE hf
      clear ev
      obtain ⟨-, hf⟩ := m_chkE hf
      obtain ⟨v8, ev, hf⟩ := m_bndE hf
      clear ev
      obtain ⟨v9, ev, hf⟩ := m_bndE hf
      clear ev
      obtain ⟨v10, ev, hf⟩ := m_bndE hf
      clear ev
      obtain ⟨v11, ev, hf⟩ := m_bndE hf
      clear ev
      obtain ⟨v12, ev, hf⟩ := m_bndE hf
      clear ev
      obtain ⟨-, hf⟩ := m_chkE hf
      obtain ⟨v13, ev, hf⟩ := m_bndE hf
      clear ev
      rcases m_ifE hf with ⟨-, hf⟩ | ⟨-, hf⟩
      ·
        exact frs_t hR (fw_isNameThere_111 hself5 hself47 hf) (fun _ h => h) (fun _ h => h)
      ·
        exact frs_t hR (fw_isNameThere_111 hself5 hself47 hf) (fun _ h => h) (fun _ h => h)
theorem fw_isNameThere_47 {self5 : Int32 → Int32 → Int32 → Int32 → (Nat → Int32) → (Nat → Nat → Int32) → Option (Int32 × MS)} (hself5 : ∀ (z0 : Int32) (z1 : Int32) (z2 : Int32) (z3 : Int32) (I : Nat → Int32) (A : Nat → Nat → Int32) (o : Int32 × MS), self5 z0 z1 z2 z3 I A = some o → FrS [] [] I A o.2.1 o.2.2) (n : Nat) : ∀ (y0 : Int32) (y1 : Int32) (y2 : Int32) (y3 : Int32) (y4 : Int32) (y5 : Int32) (I : Nat → Int32) (A : Nat → Nat → Int32) (o : Int32 × MS), f_isNameThere_47 self5 n y0 y1 y2 y3 y4 y5 I A = some o → FrS [] [] I A o.2.1 o.2.2 := by
  induction n with
  | zero => intro y0 y1 y2 y3 y4 y5 I A o hf; cases hf
  | succ n ih => intro y0 y1 y2 y3 y4 y5 I A o hf; exact fw_isNameThere_47s hself5 ih hf
theorem fw_isNameThere_42 {o : Int32 × MS} {self5 : Int32 → Int32 → Int32 → Int32 → (Nat → Int32) → (Nat → Nat → Int32) → Option (Int32 × MS)} {x1 : Int32} {x2 : Int32} {x3 : Int32} {x4 : Int32} {t0 : Int32} {I : Nat → Int32} {A : Nat → Nat → Int32} (hself5 : ∀ (z0 : Int32) (z1 : Int32) (z2 : Int32) (z3 : Int32) (I : Nat → Int32) (A : Nat → Nat → Int32) (o : Int32 × MS), self5 z0 z1 z2 z3 I A = some o → FrS [] [] I A o.2.1 o.2.2) (hf : f_isNameThere_42 self5 x1 x2 x3 x4 t0 I A = some o) : FrS [] [] I A o.2.1 o.2.2 := by
  have hR : FrS [] [] I A I A := frs_0
  unfold f_isNameThere_42 at hf
  exact frs_t hR (fw_isNameThere_47 hself5 mFuel _ _ _ _ _ _ _ _ _ hf) (fun _ h => h) (fun _ h => h)
theorem fw_isNameThere_5s {o : Int32 × MS} {self5 : Int32 → Int32 → Int32 → Int32 → (Nat → Int32) → (Nat → Nat → Int32) → Option (Int32 × MS)} {x1 : Int32} {x2 : Int32} {x3 : Int32} {x4 : Int32} {I : Nat → Int32} {A : Nat → Nat → Int32} (hself5 : ∀ (z0 : Int32) (z1 : Int32) (z2 : Int32) (z3 : Int32) (I : Nat → Int32) (A : Nat → Nat → Int32) (o : Int32 × MS), self5 z0 z1 z2 z3 I A = some o → FrS [] [] I A o.2.1 o.2.2) (hf : f_isNameThere_5s self5 x1 x2 x3 x4 I A = some o) : FrS [] [] I A o.2.1 o.2.2 := by
  have hR : FrS [] [] I A I A := frs_0
  unfold f_isNameThere_5s at hf
  rcases m_ifE hf with ⟨-, hf⟩ | ⟨-, hf⟩
  ·
    obtain ⟨-, hf⟩ := m_chkE hf
    cases hf
    exact hR
  ·
    obtain ⟨v1, ev, hf⟩ := m_bndE hf
    clear ev
    obtain ⟨v2, ev, hf⟩ := m_bndE hf
    clear ev
    obtain ⟨-, hf⟩ := m_chkE hf
    obtain ⟨v3, ev, hf⟩ := m_bndE hf
    clear ev
    obtain ⟨v4, ev, hf⟩ := m_bndE hf
    clear ev
    obtain ⟨v5, ev, hf⟩ := m_bndE hf
    clear ev
    obtain ⟨-, hf⟩ := m_chkE hf
    obtain ⟨v6, ev, hf⟩ := m_bndE hf
    clear ev
    rcases m_ifE hf with ⟨-, hf⟩ | ⟨-, hf⟩
    ·
      exact frs_t hR (fw_isNameThere_42 hself5 hf) (fun _ h => h) (fun _ h => h)
    ·
      exact frs_t hR (fw_isNameThere_42 hself5 hf) (fun _ h => h) (fun _ h => h)
theorem fw_isNameThere_5   (n : Nat) : ∀ (y0 : Int32) (y1 : Int32) (y2 : Int32) (y3 : Int32) (I : Nat → Int32) (A : Nat → Nat → Int32) (o : Int32 × MS), f_isNameThere_5  n y0 y1 y2 y3 I A = some o → FrS [] [] I A o.2.1 o.2.2 := by
  induction n with
  | zero => intro y0 y1 y2 y3 I A o hf; cases hf
  | succ n ih => intro y0 y1 y2 y3 I A o hf; exact fw_isNameThere_5s  ih hf
theorem fw_isNameThere_0 {o : Int32 × MS} {x1 : Int32} {x2 : Int32} {I : Nat → Int32} {A : Nat → Nat → Int32}  (hf : f_isNameThere_0 x1 x2 I A = some o) : FrS [] [] I A o.2.1 o.2.2 := by
  have hR : FrS [] [] I A I A := frs_0
  unfold f_isNameThere_0 at hf
  exact frs_t hR (fw_isNameThere_5  mFuel _ _ _ _ _ _ _ hf) (fun _ h => h) (fun _ h => h)
theorem fw_isNameThere {o : Int32 × MS} {x1 : Int32} {x2 : Int32} {I : Nat → Int32} {A : Nat → Nat → Int32} (hf : f_isNameThere x1 x2 I A = some o) : FrS [] [] I A o.2.1 o.2.2 := fw_isNameThere_0  hf
theorem fw_readTag_124 {o : Int32 × MS} {self71 : Int32 → Int32 → Int32 → Int32 → Int32 → (Nat → Int32) → (Nat → Nat → Int32) → Option (Int32 × MS)} {x1 : Int32} {x2 : Int32} {x3 : Int32} {x4 : Int32} {x5 : Int32} {I : Nat → Int32} {A : Nat → Nat → Int32} (hself71 : ∀ (z0 : Int32) (z1 : Int32) (z2 : Int32) (z3 : Int32) (z4 : Int32) (I : Nat → Int32) (A : Nat → Nat → Int32) (o : Int32 × MS), self71 z0 z1 z2 z3 z4 I A = some o → FrS [25, 26, 27, 28, 29, 37, 38, 39] [16, 17, 18, 19, 20, 21, 22, 24] I A o.2.1 o.2.2) (hf : f_readTag_124 self71 x1 x2 x3 x4 x5 I A = some o) : FrS [25, 26, 27, 28, 29, 37, 38, 39] [16, 17, 18, 19, 20, 21, 22, 24] I A o.2.1 o.2.2 := by
  have hR : FrS [25, 26, 27, 28, 29, 37, 38, 39] [16, 17, 18, 19, 20, 21, 22, 24] I A I A := frs_0
  unfold f_readTag_124 at hf
  obtain ⟨v1, ev, hf⟩ := m_bndE hf
  clear ev
  obtain ⟨v2, ev, hf⟩ := m_bndE hf
  clear ev
  obtain ⟨I3, ev, hf⟩ := m_bndE hf
  replace hR := frs_I hR (by decide) ev
  clear ev
  exact frs_t hR (hself71 _ _ _ _ _ _ _ _ hf) (fun _ h => h) (fun _ h => h)
theorem fw_readTag_91 {o : Int32 × MS} {self71 : Int32 → Int32 → Int32 → Int32 → Int32 → (Nat → Int32) → (Nat → Nat → Int32) → Option (Int32 × MS)} {x1 : Int32} {x2 : Int32} {x3 : Int32} {x4 : Int32} {x5 : Int32} {I : Nat → Int32} {A : Nat → Nat → Int32} (hself71 : ∀ (z0 : Int32) (z1 : Int32) (z2 : Int32) (z3 : Int32) (z4 : Int32) (I : Nat → Int32) (A : Nat → Nat → Int32) (o : Int32 × MS), self71 z0 z1 z2 z3 z4 I A = some o → FrS [25, 26, 27, 28, 29, 37, 38, 39] [16, 17, 18, 19, 20, 21, 22, 24] I A o.2.1 o.2.2) (hf : f_readTag_91 self71 x1 x2 x3 x4 x5 I A = some o) : FrS [25, 26, 27, 28, 29, 37, 38, 39] [16, 17, 18, 19, 20, 21, 22, 24] I A o.2.1 o.2.2 := by
  have hR : FrS [25, 26, 27, 28, 29, 37, 38, 39] [16, 17, 18, 19, 20, 21, 22, 24] I A I A := frs_0
  unfold f_readTag_91 at hf
  rcases m_ifE hf with ⟨-, hf⟩ | ⟨-, hf⟩
  ·
    exact frs_t hR (fw_readTag_124 hself71 hf) (fun _ h => h) (fun _ h => h)
  ·
    rcases m_ifE hf with ⟨-, hf⟩ | ⟨-, hf⟩
    ·
      obtain ⟨v1, ev, hf⟩ := m_bndE hf
      clear ev
      obtain ⟨v2, ev, hf⟩ := m_bndE hf
      clear ev
      obtain ⟨v3, ev, hf⟩ := m_bndE hf
      clear ev
      obtain ⟨v4, ev, hf⟩ := m_bndE hf
      clear ev
      obtain ⟨or5, ho, hf⟩ := m_clE hf
      replace hR := frs_t hR (fw_look ho) (by decide) (by decide)
      clear ho
      obtain ⟨-, hf⟩ := m_chkE hf
      obtain ⟨A6, ev, hf⟩ := m_bndE hf
      replace hR := frs_A hR (by decide) ev
      clear ev
      exact frs_t hR (fw_readTag_124 hself71 hf) (fun _ h => h) (fun _ h => h)
    ·
      exact frs_t hR (fw_readTag_124 hself71 hf) (fun _ h => h) (fun _ h => h)
theorem fw_readTag_370 {o : Int32 × MS} {x2 : Int32} {I : Nat → Int32} {A : Nat → Nat → Int32}  (hf : f_readTag_370 x2 I A = some o) : FrS [25, 26, 27, 28, 29, 37, 38, 39] [16, 17, 18, 19, 20, 21, 22, 24] I A o.2.1 o.2.2 := by
  have hR : FrS [25, 26, 27, 28, 29, 37, 38, 39] [16, 17, 18, 19, 20, 21, 22, 24] I A I A := frs_0
  unfold f_readTag_370 at hf
  obtain ⟨or1, ho, hf⟩ := m_clE hf
  replace hR := frs_t hR (fw_fault ho) (by decide) (by decide)
  clear ho
  cases hf
  exact hR
theorem fw_readTag_457 {o : Int32 × MS} {x1 : Int32} {I : Nat → Int32} {A : Nat → Nat → Int32}  (hf : f_readTag_457 x1 I A = some o) : FrS [25, 26, 27, 28, 29, 37, 38, 39] [16, 17, 18, 19, 20, 21, 22, 24] I A o.2.1 o.2.2 := by
  have hR : FrS [25, 26, 27, 28, 29, 37, 38, 39] [16, 17, 18, 19, 20, 21, 22, 24] I A I A := frs_0
  unfold f_readTag_457 at hf
  obtain ⟨-, hf⟩ := m_chkE hf
  obtain ⟨v1, ev, hf⟩ := m_bndE hf
  clear ev
  obtain ⟨v2, ev, hf⟩ := m_bndE hf
  clear ev
  obtain ⟨-, hf⟩ := m_chkE hf
  obtain ⟨A3, ev, hf⟩ := m_bndE hf
  replace hR := frs_A hR (by decide) ev
  clear ev
  cases hf
  exact hR
theorem fw_readTag_250 {o : Int32 × MS} {I : Nat → Int32} {A : Nat → Nat → Int32}  (hf : f_readTag_250 I A = some o) : FrS [25, 26, 27, 28, 29, 37, 38, 39] [16, 17, 18, 19, 20, 21, 22, 24] I A o.2.1 o.2.2 := by
  have hR : FrS [25, 26, 27, 28, 29, 37, 38, 39] [16, 17, 18, 19, 20, 21, 22, 24] I A I A := frs_0
  unfold f_readTag_250 at hf
  obtain ⟨or1, ho, hf⟩ := m_clE hf
  replace hR := frs_t hR (fw_fault ho) (by decide) (by decide)
  clear ho
  cases hf
  exact hR
theorem fw_readTag_293 {o : Int32 × MS} {self175 : Int32 → Int32 → Int32 → Int32 → Int32 → Int32 → (Nat → Int32) → (Nat → Nat → Int32) → Option (Int32 × MS)} {x1 : Int32} {x2 : Int32} {x3 : Int32} {x4 : Int32} {x5 : Int32} {x6 : Int32} {I : Nat → Int32} {A : Nat → Nat → Int32} (hself175 : ∀ (z0 : Int32) (z1 : Int32) (z2 : Int32) (z3 : Int32) (z4 : Int32) (z5 : Int32) (I : Nat → Int32) (A : Nat → Nat → Int32) (o : Int32 × MS), self175 z0 z1 z2 z3 z4 z5 I A = some o → FrS [25, 26, 27, 28, 29, 37, 38, 39] [16, 17, 18, 19, 20, 21, 22, 24] I A o.2.1 o.2.2) (hf : f_readTag_293 self175 x1 x2 x3 x4 x5 x6 I A = some o) : FrS [25, 26, 27, 28, 29, 37, 38, 39] [16, 17, 18, 19, 20, 21, 22, 24] I A o.2.1 o.2.2 := by
  have hR : FrS [25, 26, 27, 28, 29, 37, 38, 39] [16, 17, 18, 19, 20, 21, 22, 24] I A I A := frs_0
  unfold f_readTag_293 at hf
  obtain ⟨v1, ev, hf⟩ := m_bndE hf
  clear ev
  obtain ⟨v2, ev, hf⟩ := m_bndE hf
  clear ev
  obtain ⟨I3, ev, hf⟩ := m_bndE hf
  replace hR := frs_I hR (by decide) ev
  clear ev
  exact frs_t hR (hself175 _ _ _ _ _ _ _ _ _ hf) (fun _ h => h) (fun _ h => h)
theorem fw_readTag_230 {o : Int32 × MS} {self175 : Int32 → Int32 → Int32 → Int32 → Int32 → Int32 → (Nat → Int32) → (Nat → Nat → Int32) → Option (Int32 × MS)} {x1 : Int32} {x2 : Int32} {x3 : Int32} {x4 : Int32} {x5 : Int32} {x6 : Int32} {I : Nat → Int32} {A : Nat → Nat → Int32} (hself175 : ∀ (z0 : Int32) (z1 : Int32) (z2 : Int32) (z3 : Int32) (z4 : Int32) (z5 : Int32) (I : Nat → Int32) (A : Nat → Nat → Int32) (o : Int32 × MS), self175 z0 z1 z2 z3 z4 z5 I A = some o → FrS [25, 26, 27, 28, 29, 37, 38, 39] [16, 17, 18, 19, 20, 21, 22, 24] I A o.2.1 o.2.2) (hf : f_readTag_230 self175 x1 x2 x3 x4 x5 x6 I A = some o) : FrS [25, 26, 27, 28, 29, 37, 38, 39] [16, 17, 18, 19, 20, 21, 22, 24] I A o.2.1 o.2.2 := by
  have hR : FrS [25, 26, 27, 28, 29, 37, 38, 39] [16, 17, 18, 19, 20, 21, 22, 24] I A I A := frs_0
  unfold f_readTag_230 at hf
  rcases m_ifE hf with ⟨-, hf⟩ | ⟨-, hf⟩
  ·
    exact frs_t hR (fw_readTag_250  hf) (fun _ h => h) (fun _ h => h)
  ·
    obtain ⟨or1, ho, hf⟩ := m_clE hf
    replace hR := frs_t hR (fw_look ho) (by decide) (by decide)
    clear ho
    rcases m_ifE hf with ⟨-, hf⟩ | ⟨-, hf⟩
    ·
      exact frs_t hR (fw_readTag_250  hf) (fun _ h => h) (fun _ h => h)
    ·
      rcases m_ifE hf with ⟨-, hf⟩ | ⟨-, hf⟩
      ·
        exact frs_t hR (fw_readTag_293 hself175 hf) (fun _ h => h) (fun _ h => h)
      ·
        rcases m_ifE hf with ⟨-, hf⟩ | ⟨-, hf⟩
        ·
          obtain ⟨v2, ev, hf⟩ := m_bndE hf
          clear ev
          obtain ⟨v3, ev, hf⟩ := m_bndE hf
          clear ev
          obtain ⟨v4, ev, hf⟩ := m_bndE hf
          clear ev
          obtain ⟨v5, ev, hf⟩ := m_bndE hf
          clear ev
          obtain ⟨or6, ho, hf⟩ := m_clE hf
          replace hR := frs_t hR (fw_look ho) (by decide) (by decide)
          clear ho
          obtain ⟨-, hf⟩ := m_chkE hf
          obtain ⟨A7, ev, hf⟩ := m_bndE hf
          replace hR := frs_A hR (by decide) ev
          clear ev
          exact frs_t hR (fw_readTag_293 hself175 hf) (fun _ h => h) (fun _ h => h)
        ·
          exact frs_t hR (fw_readTag_293 hself175 hf) (fun _ h => h) (fun _ h => h)
theorem fw_readTag_175s {o : Int32 × MS} {self175 : Int32 → Int32 → Int32 → Int32 → Int32 → Int32 → (Nat → Int32) → (Nat → Nat → Int32) → Option (Int32 × MS)} {x1 : Int32} {x2 : Int32} {x3 : Int32} {x4 : Int32} {x5 : Int32} {x6 : Int32} {I : Nat → Int32} {A : Nat → Nat → Int32} (hself175 : ∀ (z0 : Int32) (z1 : Int32) (z2 : Int32) (z3 : Int32) (z4 : Int32) (z5 : Int32) (I : Nat → Int32) (A : Nat → Nat → Int32) (o : Int32 × MS), self175 z0 z1 z2 z3 z4 z5 I A = some o → FrS [25, 26, 27, 28, 29, 37, 38, 39] [16, 17, 18, 19, 20, 21, 22, 24] I A o.2.1 o.2.2) (hf : f_readTag_175s self175 x1 x2 x3 x4 x5 x6 I A = some o) : FrS [25, 26, 27, 28, 29, 37, 38, 39] [16, 17, 18, 19, 20, 21, 22, 24] I A o.2.1 o.2.2 := by
  have hR : FrS [25, 26, 27, 28, 29, 37, 38, 39] [16, 17, 18, 19, 20, 21, 22, 24] I A I A := frs_0
  unfold f_readTag_175s at hf
  obtain ⟨or1, ho, hf⟩ := m_clE hf
  replace hR := frs_t hR (fw_look ho) (by decide) (by decide)
  clear ho
  rcases m_ifE hf with ⟨-, hf⟩ | ⟨-, hf⟩
  ·
    obtain ⟨v2, ev, hf⟩ := m_bndE hf
    clear ev
    obtain ⟨I3, ev, hf⟩ := m_bndE hf
    replace hR := frs_I hR (by decide) ev
    clear ev
    obtain ⟨or4, ho, hf⟩ := m_clE hf
    replace hR := frs_t hR (fw_blanks ho) (by decide) (by decide)
    clear ho
    obtain ⟨or5, ho, hf⟩ := m_clE hf
    replace hR := frs_t hR (fw_look ho) (by decide) (by decide)
    clear ho
    rcases m_ifE hf with ⟨-, hf⟩ | ⟨-, hf⟩
    ·
      obtain ⟨v6, ev, hf⟩ := m_bndE hf
      clear ev
      obtain ⟨I7, ev, hf⟩ := m_bndE hf
      replace hR := frs_I hR (by decide) ev
      clear ev
      rcases m_ifE hf with ⟨-, hf⟩ | ⟨-, hf⟩
      ·
        rcases m_ifE hf with ⟨-, hf⟩ | ⟨-, hf⟩
        ·
          exact frs_t hR (fw_readTag_370  hf) (fun _ h => h) (fun _ h => h)
        ·
          rcases m_ifE hf with ⟨-, hf⟩ | ⟨-, hf⟩
          ·
            obtain ⟨v8, ev, hf⟩ := m_bndE hf
            clear ev
            obtain ⟨v9, ev, hf⟩ := m_bndE hf
            clear ev
            obtain ⟨-, hf⟩ := m_chkE hf
            obtain ⟨A10, ev, hf⟩ := m_bndE hf
            replace hR := frs_A hR (by decide) ev
            clear ev
            obtain ⟨v11, ev, hf⟩ := m_bndE hf
            clear ev
            obtain ⟨v12, ev, hf⟩ := m_bndE hf
            clear ev
            obtain ⟨-, hf⟩ := m_chkE hf
            obtain ⟨A13, ev, hf⟩ := m_bndE hf
            replace hR := frs_A hR (by decide) ev
            clear ev
            obtain ⟨or14, ho, hf⟩ := m_clE hf
            replace hR := frs_t hR (fw_isNameThere ho) (by decide) (by decide)
            clear ho
            rcases m_ifE hf with ⟨-, hf⟩ | ⟨-, hf⟩
            ·
              obtain ⟨or15, ho, hf⟩ := m_clE hf
              replace hR := frs_t hR (fw_isTag ho) (by decide) (by decide)
              clear ho
              rcases m_ifE hf with ⟨-, hf⟩ | ⟨-, hf⟩
              ·
                exact frs_t hR (fw_readTag_457  hf) (fun _ h => h) (fun _ h => h)
              ·
                obtain ⟨v16, ev, hf⟩ := m_bndE hf
                clear ev
                obtain ⟨v17, ev, hf⟩ := m_bndE hf
                clear ev
                obtain ⟨v18, ev, hf⟩ := m_bndE hf
                clear ev
                obtain ⟨or19, ho, hf⟩ := m_clE hf
                replace hR := frs_t hR (fw_readPosition ho) (by decide) (by decide)
                clear ho
                rcases m_ifE hf with ⟨-, hf⟩ | ⟨-, hf⟩
                ·
                  obtain ⟨or21, ho, hf⟩ := m_clE hf
                  replace hR := frs_t hR (fw_fault ho) (by decide) (by decide)
                  clear ho
                  cases hf
                  exact hR
                ·
                  obtain ⟨or20, ho, hf⟩ := m_clE hf
                  replace hR := frs_t hR (fw_start ho) (by decide) (by decide)
                  clear ho
                  exact frs_t hR (fw_readTag_457  hf) (fun _ h => h) (fun _ h => h)
            ·
              obtain ⟨or22, ho, hf⟩ := m_clE hf
              replace hR := frs_t hR (fw_fault ho) (by decide) (by decide)
              clear ho
              cases hf
              exact hR
          ·
            exact frs_t hR (fw_readTag_370  hf) (fun _ h => h) (fun _ h => h)
      ·
        exact frs_t hR (fw_readTag_370  hf) (fun _ h => h) (fun _ h => h)
    ·
      obtain ⟨or23, ho, hf⟩ := m_clE hf
      replace hR := frs_t hR (fw_fault ho) (by decide) (by decide)
      clear ho
      cases hf
      exact hR
  ·
    obtain ⟨or24, ho, hf⟩ := m_clE hf
    replace hR := frs_t hR (fw_look ho) (by decide) (by decide)
    clear ho
    rcases m_ifE hf with ⟨-, hf⟩ | ⟨-, hf⟩
    ·
      obtain ⟨v25, ev, hf⟩ := m_bndE hf
      clear ev
      obtain ⟨I26, ev, hf⟩ := m_bndE hf
      replace hR := frs_I hR (by decide) ev
      clear ev
      obtain ⟨or27, ho, hf⟩ := m_clE hf
      replace hR := frs_t hR (fw_look ho) (by decide) (by decide)
      clear ho
      rcases m_ifE hf with ⟨-, hf⟩ | ⟨-, hf⟩
      ·
        exact frs_t hR (fw_readTag_230 hself175 hf) (fun _ h => h) (fun _ h => h)
      ·
        obtain ⟨or28, ho, hf⟩ := m_clE hf
        replace hR := frs_t hR (fw_look ho) (by decide) (by decide)
        clear ho
        rcases m_ifE hf with ⟨-, hf⟩ | ⟨-, hf⟩
        ·
          exact frs_t hR (fw_readTag_230 hself175 hf) (fun _ h => h) (fun _ h => h)
        ·
          obtain ⟨or29, ho, hf⟩ := m_clE hf
          replace hR := frs_t hR (fw_fault ho) (by decide) (by decide)
          clear ho
          cases hf
          exact hR
    ·
      exact frs_t hR (fw_readTag_230 hself175 hf) (fun _ h => h) (fun _ h => h)
theorem fw_readTag_175   (n : Nat) : ∀ (y0 : Int32) (y1 : Int32) (y2 : Int32) (y3 : Int32) (y4 : Int32) (y5 : Int32) (I : Nat → Int32) (A : Nat → Nat → Int32) (o : Int32 × MS), f_readTag_175  n y0 y1 y2 y3 y4 y5 I A = some o → FrS [25, 26, 27, 28, 29, 37, 38, 39] [16, 17, 18, 19, 20, 21, 22, 24] I A o.2.1 o.2.2 := by
  induction n with
  | zero => intro y0 y1 y2 y3 y4 y5 I A o hf; cases hf
  | succ n ih => intro y0 y1 y2 y3 y4 y5 I A o hf; exact fw_readTag_175s  ih hf
theorem fw_readTag_71s {o : Int32 × MS} {self71 : Int32 → Int32 → Int32 → Int32 → Int32 → (Nat → Int32) → (Nat → Nat → Int32) → Option (Int32 × MS)} {x1 : Int32} {x2 : Int32} {x3 : Int32} {x4 : Int32} {x5 : Int32} {I : Nat → Int32} {A : Nat → Nat → Int32} (hself71 : ∀ (z0 : Int32) (z1 : Int32) (z2 : Int32) (z3 : Int32) (z4 : Int32) (I : Nat → Int32) (A : Nat → Nat → Int32) (o : Int32 × MS), self71 z0 z1 z2 z3 z4 I A = some o → FrS [25, 26, 27, 28, 29, 37, 38, 39] [16, 17, 18, 19, 20, 21, 22, 24] I A o.2.1 o.2.2) (hf : f_readTag_71s self71 x1 x2 x3 x4 x5 I A = some o) : FrS [25, 26, 27, 28, 29, 37, 38, 39] [16, 17, 18, 19, 20, 21, 22, 24] I A o.2.1 o.2.2 := by
  have hR : FrS [25, 26, 27, 28, 29, 37, 38, 39] [16, 17, 18, 19, 20, 21, 22, 24] I A I A := frs_0
  unfold f_readTag_71s at hf
  obtain ⟨or1, ho, hf⟩ := m_clE hf
  replace hR := frs_t hR (fw_look ho) (by decide) (by decide)
  clear ho
  obtain ⟨or2, ho, hf⟩ := m_clE hf
  replace hR := frs_t hR (fw_isLetter ho) (by decide) (by decide)
  clear ho
  rcases m_ifE hf with ⟨-, hf⟩ | ⟨-, hf⟩
  ·
    obtain ⟨or3, ho, hf⟩ := m_clE hf
    replace hR := frs_t hR (fw_look ho) (by decide) (by decide)
    clear ho
    obtain ⟨or4, ho, hf⟩ := m_clE hf
    replace hR := frs_t hR (fw_isDigit ho) (by decide) (by decide)
    clear ho
    rcases m_ifE hf with ⟨-, hf⟩ | ⟨-, hf⟩
    ·
      obtain ⟨or5, ho, hf⟩ := m_clE hf
      replace hR := frs_t hR (fw_blanks ho) (by decide) (by decide)
      clear ho
      obtain ⟨or6, ho, hf⟩ := m_clE hf
      replace hR := frs_t hR (fw_look ho) (by decide) (by decide)
      clear ho
      rcases m_ifE hf with ⟨-, hf⟩ | ⟨-, hf⟩
      ·
        obtain ⟨v7, ev, hf⟩ := m_bndE hf
        clear ev
        obtain ⟨I8, ev, hf⟩ := m_bndE hf
        replace hR := frs_I hR (by decide) ev
        clear ev
        exact frs_t hR (fw_readTag_175  mFuel _ _ _ _ _ _ _ _ _ hf) (fun _ h => h) (fun _ h => h)
      ·
        obtain ⟨or9, ho, hf⟩ := m_clE hf
        replace hR := frs_t hR (fw_fault ho) (by decide) (by decide)
        clear ho
        cases hf
        exact hR
    ·
      exact frs_t hR (fw_readTag_91 hself71 hf) (fun _ h => h) (fun _ h => h)
  ·
    exact frs_t hR (fw_readTag_91 hself71 hf) (fun _ h => h) (fun _ h => h)
theorem fw_readTag_71   (n : Nat) : ∀ (y0 : Int32) (y1 : Int32) (y2 : Int32) (y3 : Int32) (y4 : Int32) (I : Nat → Int32) (A : Nat → Nat → Int32) (o : Int32 × MS), f_readTag_71  n y0 y1 y2 y3 y4 I A = some o → FrS [25, 26, 27, 28, 29, 37, 38, 39] [16, 17, 18, 19, 20, 21, 22, 24] I A o.2.1 o.2.2 := by
  induction n with
  | zero => intro y0 y1 y2 y3 y4 I A o hf; cases hf
  | succ n ih => intro y0 y1 y2 y3 y4 I A o hf; exact fw_readTag_71s  ih hf
theorem fw_readTag_23 {o : Int32 × MS} {x1 : Int32} {x2 : Int32} {x3 : Int32} {t0 : Int32} {I : Nat → Int32} {A : Nat → Nat → Int32}  (hf : f_readTag_23 x1 x2 x3 t0 I A = some o) : FrS [25, 26, 27, 28, 29, 37, 38, 39] [16, 17, 18, 19, 20, 21, 22, 24] I A o.2.1 o.2.2 := by
  have hR : FrS [25, 26, 27, 28, 29, 37, 38, 39] [16, 17, 18, 19, 20, 21, 22, 24] I A I A := frs_0
  unfold f_readTag_23 at hf
  obtain ⟨v1, ev, hf⟩ := m_bndE hf
  clear ev
  obtain ⟨I2, ev, hf⟩ := m_bndE hf
  replace hR := frs_I hR (by decide) ev
  clear ev
  obtain ⟨or3, ho, hf⟩ := m_clE hf
  replace hR := frs_t hR (fw_blanks ho) (by decide) (by decide)
  clear ho
  obtain ⟨or4, ho, hf⟩ := m_clE hf
  replace hR := frs_t hR (fw_look ho) (by decide) (by decide)
  clear ho
  obtain ⟨or5, ho, hf⟩ := m_clE hf
  replace hR := frs_t hR (fw_isLetter ho) (by decide) (by decide)
  clear ho
  rcases m_ifE hf with ⟨-, hf⟩ | ⟨-, hf⟩
  ·
    obtain ⟨or6, ho, hf⟩ := m_clE hf
    replace hR := frs_t hR (fw_look ho) (by decide) (by decide)
    clear ho
    obtain ⟨or7, ho, hf⟩ := m_clE hf
    replace hR := frs_t hR (fw_isDigit ho) (by decide) (by decide)
    clear ho
    rcases m_ifE hf with ⟨-, hf⟩ | ⟨-, hf⟩
    ·
      obtain ⟨or8, ho, hf⟩ := m_clE hf
      replace hR := frs_t hR (fw_fault ho) (by decide) (by decide)
      clear ho
      cases hf
      exact hR
    ·
      exact frs_t hR (fw_readTag_71  mFuel _ _ _ _ _ _ _ _ hf) (fun _ h => h) (fun _ h => h)
  ·
    exact frs_t hR (fw_readTag_71  mFuel _ _ _ _ _ _ _ _ hf) (fun _ h => h) (fun _ h => h)
theorem fw_readTag_0 {o : Int32 × MS} {x1 : Int32} {I : Nat → Int32} {A : Nat → Nat → Int32}  (hf : f_readTag_0 x1 I A = some o) : FrS [25, 26, 27, 28, 29, 37, 38, 39] [16, 17, 18, 19, 20, 21, 22, 24] I A o.2.1 o.2.2 := by
  have hR : FrS [25, 26, 27, 28, 29, 37, 38, 39] [16, 17, 18, 19, 20, 21, 22, 24] I A I A := frs_0
  unfold f_readTag_0 at hf
  obtain ⟨-, hf⟩ := m_chkE hf
  obtain ⟨v1, ev, hf⟩ := m_bndE hf
  clear ev
  rcases m_ifE hf with ⟨-, hf⟩ | ⟨-, hf⟩
  ·
    exact frs_t hR (fw_readTag_23  hf) (fun _ h => h) (fun _ h => h)
  ·
    exact frs_t hR (fw_readTag_23  hf) (fun _ h => h) (fun _ h => h)
theorem fw_readTag {o : Int32 × MS} {x1 : Int32} {I : Nat → Int32} {A : Nat → Nat → Int32} (hf : f_readTag x1 I A = some o) : FrS [25, 26, 27, 28, 29, 37, 38, 39] [16, 17, 18, 19, 20, 21, 22, 24] I A o.2.1 o.2.2 := fw_readTag_0  hf
theorem fw_readRemarks_344 {o : Int32 × MS} {self4 : Int32 → Int32 → (Nat → Int32) → (Nat → Nat → Int32) → Option (Int32 × MS)} {x1 : Int32} {x2 : Int32} {t0 : Int32} {I : Nat → Int32} {A : Nat → Nat → Int32} (hself4 : ∀ (z0 : Int32) (z1 : Int32) (I : Nat → Int32) (A : Nat → Nat → Int32) (o : Int32 × MS), self4 z0 z1 I A = some o → FrS [37] [14, 15] I A o.2.1 o.2.2) (hf : f_readRemarks_344 self4 x1 x2 t0 I A = some o) : FrS [37] [14, 15] I A o.2.1 o.2.2 := by
  have hR : FrS [37] [14, 15] I A I A := frs_0
  unfold f_readRemarks_344 at hf
  obtain ⟨I1, ev, hf⟩ := m_bndE hf
  replace hR := frs_I hR (by decide) ev
  clear ev
  obtain ⟨or2, ho, hf⟩ := m_clE hf
  replace hR := frs_t hR (fw_blanks ho) (by decide) (by decide)
  clear ho
  exact frs_t hR (hself4 _ _ _ _ _ hf) (fun _ h => h) (fun _ h => h)
theorem fw_readRemarks_303 {o : Int32 × MS} {self4 : Int32 → Int32 → (Nat → Int32) → (Nat → Nat → Int32) → Option (Int32 × MS)} {self247 : Int32 → Int32 → Int32 → Int32 → Int32 → Int32 → Int32 → Int32 → Int32 → (Nat → Int32) → (Nat → Nat → Int32) → Option (Int32 × MS)} {x1 : Int32} {x2 : Int32} {x4 : Int32} {x5 : Int32} {x6 : Int32} {x7 : Int32} {x8 : Int32} {x9 : Int32} {x10 : Int32} {t0 : Int32} {t1 : Int32} {I : Nat → Int32} {A : Nat → Nat → Int32} (hself4 : ∀ (z0 : Int32) (z1 : Int32) (I : Nat → Int32) (A : Nat → Nat → Int32) (o : Int32 × MS), self4 z0 z1 I A = some o → FrS [37] [14, 15] I A o.2.1 o.2.2) (hself247 : ∀ (z0 : Int32) (z1 : Int32) (z2 : Int32) (z3 : Int32) (z4 : Int32) (z5 : Int32) (z6 : Int32) (z7 : Int32) (z8 : Int32) (I : Nat → Int32) (A : Nat → Nat → Int32) (o : Int32 × MS), self247 z0 z1 z2 z3 z4 z5 z6 z7 z8 I A = some o → FrS [37] [14, 15] I A o.2.1 o.2.2) (hf : f_readRemarks_303 self4 self247 x1 x2 x4 x5 x6 x7 x8 x9 x10 t0 t1 I A = some o) : FrS [37] [14, 15] I A o.2.1 o.2.2 := by
  have hR : FrS [37] [14, 15] I A I A := frs_0
  unfold f_readRemarks_303 at hf
  obtain ⟨-, hf⟩ := m_chkE hf
  obtain ⟨A1, ev, hf⟩ := m_bndE hf
  replace hR := frs_A hR (by decide) ev
  clear ev
  obtain ⟨v2, ev, hf⟩ := m_bndE hf
  clear ev
  exact frs_t hR (hself247 _ _ _ _ _ _ _ _ _ _ _ _ hf) (fun _ h => h) (fun _ h => h)
theorem fw_readRemarks_247s {o : Int32 × MS} {self4 : Int32 → Int32 → (Nat → Int32) → (Nat → Nat → Int32) → Option (Int32 × MS)} {self247 : Int32 → Int32 → Int32 → Int32 → Int32 → Int32 → Int32 → Int32 → Int32 → (Nat → Int32) → (Nat → Nat → Int32) → Option (Int32 × MS)} {x1 : Int32} {x2 : Int32} {x4 : Int32} {x5 : Int32} {x6 : Int32} {x7 : Int32} {x8 : Int32} {x9 : Int32} {x10 : Int32} {I : Nat → Int32} {A : Nat → Nat → Int32} (hself4 : ∀ (z0 : Int32) (z1 : Int32) (I : Nat → Int32) (A : Nat → Nat → Int32) (o : Int32 × MS), self4 z0 z1 I A = some o → FrS [37] [14, 15] I A o.2.1 o.2.2) (hself247 : ∀ (z0 : Int32) (z1 : Int32) (z2 : Int32) (z3 : Int32) (z4 : Int32) (z5 : Int32) (z6 : Int32) (z7 : Int32) (z8 : Int32) (I : Nat → Int32) (A : Nat → Nat → Int32) (o : Int32 × MS), self247 z0 z1 z2 z3 z4 z5 z6 z7 z8 I A = some o → FrS [37] [14, 15] I A o.2.1 o.2.2) (hf : f_readRemarks_247s self4 self247 x1 x2 x4 x5 x6 x7 x8 x9 x10 I A = some o) : FrS [37] [14, 15] I A o.2.1 o.2.2 := by
  have hR : FrS [37] [14, 15] I A I A := frs_0
  unfold f_readRemarks_247s at hf
  rcases m_ifE hf with ⟨-, hf⟩ | ⟨-, hf⟩
  ·
    obtain ⟨v1, ev, hf⟩ := m_bndE hf
    clear ev
    obtain ⟨v2, ev, hf⟩ := m_bndE hf
    clear ev
    obtain ⟨-, hf⟩ := m_chkE hf
    obtain ⟨A3, ev, hf⟩ := m_bndE hf
    replace hR := frs_A hR (by decide) ev
    clear ev
    rcases m_ifE hf with ⟨-, hf⟩ | ⟨-, hf⟩
    ·
      exact frs_t hR (fw_readRemarks_344 hself4 hf) (fun _ h => h) (fun _ h => h)
    ·
      obtain ⟨v4, ev, hf⟩ := m_bndE hf
      clear ev
      exact frs_t hR (fw_readRemarks_344 hself4 hf) (fun _ h => h) (fun _ h => h)
  ·
    obtain ⟨v5, ev, hf⟩ := m_bndE hf
    clear ev
    obtain ⟨v6, ev, hf⟩ := m_bndE hf
    clear ev
    obtain ⟨v7, ev, hf⟩ := m_bndE hf
    clear ev
    obtain ⟨v8, ev, hf⟩ := m_bndE hf
    clear ev
    obtain ⟨v9, ev, hf⟩ := m_bndE hf
    clear ev
    obtain ⟨-, hf⟩ := m_chkE hf
    obtain ⟨v10, ev, hf⟩ := m_bndE hf
    clear ev
    rcases m_ifE hf with ⟨-, hf⟩ | ⟨-, hf⟩
    ·
      exact frs_t hR (fw_readRemarks_303 hself4 hself247 hf) (fun _ h => h) (fun _ h => h)
    ·
      obtain ⟨v11, ev, hf⟩ := m_bndE hf
      clear ev
      obtain ⟨-, hf⟩ := m_chkE hf
      obtain ⟨v12, ev, hf⟩ := m_bndE hf
      clear ev
      exact frs_t hR (fw_readRemarks_303 hself4 hself247 hf) (fun _ h => h) (fun _ h => h)
theorem fw_readRemarks_247 {self4 : Int32 → Int32 → (Nat → Int32) → (Nat → Nat → Int32) → Option (Int32 × MS)} (hself4 : ∀ (z0 : Int32) (z1 : Int32) (I : Nat → Int32) (A : Nat → Nat → Int32) (o : Int32 × MS), self4 z0 z1 I A = some o → FrS [37] [14, 15] I A o.2.1 o.2.2) (n : Nat) : ∀ (y0 : Int32) (y1 : Int32) (y2 : Int32) (y3 : Int32) (y4 : Int32) (y5 : Int32) (y6 : Int32) (y7 : Int32) (y8 : Int32) (I : Nat → Int32) (A : Nat → Nat → Int32) (o : Int32 × MS), f_readRemarks_247 self4 n y0 y1 y2 y3 y4 y5 y6 y7 y8 I A = some o → FrS [37] [14, 15] I A o.2.1 o.2.2 := by
  induction n with
  | zero => intro y0 y1 y2 y3 y4 y5 y6 y7 y8 I A o hf; cases hf
  | succ n ih => intro y0 y1 y2 y3 y4 y5 y6 y7 y8 I A o hf; exact fw_readRemarks_247s hself4 ih hf
theorem fw_readRemarks_244 {o : Int32 × MS} {self4 : Int32 → Int32 → (Nat → Int32) → (Nat → Nat → Int32) → Option (Int32 × MS)} {x1 : Int32} {x2 : Int32} {x4 : Int32} {x5 : Int32} {x6 : Int32} {x7 : Int32} {x8 : Int32} {x9 : Int32} {I : Nat → Int32} {A : Nat → Nat → Int32} (hself4 : ∀ (z0 : Int32) (z1 : Int32) (I : Nat → Int32) (A : Nat → Nat → Int32) (o : Int32 × MS), self4 z0 z1 I A = some o → FrS [37] [14, 15] I A o.2.1 o.2.2) (hf : f_readRemarks_244 self4 x1 x2 x4 x5 x6 x7 x8 x9 I A = some o) : FrS [37] [14, 15] I A o.2.1 o.2.2 := by
  have hR : FrS [37] [14, 15] I A I A := frs_0
  unfold f_readRemarks_244 at hf
  exact frs_t hR (fw_readRemarks_247 hself4 mFuel _ _ _ _ _ _ _ _ _ _ _ _ hf) (fun _ h => h) (fun _ h => h)
theorem fw_readRemarks_199 {o : Int32 × MS} {self4 : Int32 → Int32 → (Nat → Int32) → (Nat → Nat → Int32) → Option (Int32 × MS)} {x1 : Int32} {x2 : Int32} {x3 : Int32} {x4 : Int32} {x5 : Int32} {x6 : Int32} {x7 : Int32} {x8 : Int32} {t0 : Int32} {I : Nat → Int32} {A : Nat → Nat → Int32} (hself4 : ∀ (z0 : Int32) (z1 : Int32) (I : Nat → Int32) (A : Nat → Nat → Int32) (o : Int32 × MS), self4 z0 z1 I A = some o → FrS [37] [14, 15] I A o.2.1 o.2.2) (hf : f_readRemarks_199 self4 x1 x2 x3 x4 x5 x6 x7 x8 t0 I A = some o) : FrS [37] [14, 15] I A o.2.1 o.2.2 := by
  have hR : FrS [37] [14, 15] I A I A := frs_0
  unfold f_readRemarks_199 at hf
  obtain ⟨v1, ev, hf⟩ := m_bndE hf
  clear ev
  obtain ⟨v2, ev, hf⟩ := m_bndE hf
  clear ev
  rcases m_ifE hf with ⟨-, hf⟩ | ⟨-, hf⟩
  ·
    rcases m_ifE hf with ⟨-, hf⟩ | ⟨-, hf⟩
    ·
      obtain ⟨v3, ev, hf⟩ := m_bndE hf
      clear ev
      obtain ⟨v4, ev, hf⟩ := m_bndE hf
      clear ev
      obtain ⟨-, hf⟩ := m_chkE hf
      obtain ⟨A5, ev, hf⟩ := m_bndE hf
      replace hR := frs_A hR (by decide) ev
      clear ev
      exact frs_t hR (fw_readRemarks_244 hself4 hf) (fun _ h => h) (fun _ h => h)
    ·
      exact frs_t hR (fw_readRemarks_244 hself4 hf) (fun _ h => h) (fun _ h => h)
  ·
    obtain ⟨or6, ho, hf⟩ := m_clE hf
    replace hR := frs_t hR (fw_fault ho) (by decide) (by decide)
    clear ho
    cases hf
    exact hR
theorem fw_readRemarks_198 {o : Int32 × MS} {self4 : Int32 → Int32 → (Nat → Int32) → (Nat → Nat → Int32) → Option (Int32 × MS)} {x1 : Int32} {x2 : Int32} {x3 : Int32} {x4 : Int32} {x5 : Int32} {x6 : Int32} {x7 : Int32} {x8 : Int32} {I : Nat → Int32} {A : Nat → Nat → Int32} (hself4 : ∀ (z0 : Int32) (z1 : Int32) (I : Nat → Int32) (A : Nat → Nat → Int32) (o : Int32 × MS), self4 z0 z1 I A = some o → FrS [37] [14, 15] I A o.2.1 o.2.2) (hf : f_readRemarks_198 self4 x1 x2 x3 x4 x5 x6 x7 x8 I A = some o) : FrS [37] [14, 15] I A o.2.1 o.2.2 := by
  have hR : FrS [37] [14, 15] I A I A := frs_0
  unfold f_readRemarks_198 at hf
  exact frs_t hR (fw_readRemarks_199 hself4 hf) (fun _ h => h) (fun _ h => h)
theorem fw_readRemarks_157 {o : Int32 × MS} {self4 : Int32 → Int32 → (Nat → Int32) → (Nat → Nat → Int32) → Option (Int32 × MS)} {x1 : Int32} {x2 : Int32} {x3 : Int32} {x4 : Int32} {x5 : Int32} {I : Nat → Int32} {A : Nat → Nat → Int32} (hself4 : ∀ (z0 : Int32) (z1 : Int32) (I : Nat → Int32) (A : Nat → Nat → Int32) (o : Int32 × MS), self4 z0 z1 I A = some o → FrS [37] [14, 15] I A o.2.1 o.2.2) (hf : f_readRemarks_157 self4 x1 x2 x3 x4 x5 I A = some o) : FrS [37] [14, 15] I A o.2.1 o.2.2 := by
  have hR : FrS [37] [14, 15] I A I A := frs_0
  unfold f_readRemarks_157 at hf
  obtain ⟨v1, ev, hf⟩ := m_bndE hf
  clear ev
  obtain ⟨v2, ev, hf⟩ := m_bndE hf
  clear ev
  obtain ⟨v3, ev, hf⟩ := m_bndE hf
  clear ev
  obtain ⟨-, hf⟩ := m_chkE hf
  obtain ⟨v4, ev, hf⟩ := m_bndE hf
  clear ev
  rcases m_ifE hf with ⟨-, hf⟩ | ⟨-, hf⟩
  ·
    exact frs_t hR (fw_readRemarks_198 hself4 hf) (fun _ h => h) (fun _ h => h)
  ·
    rcases m_ifE hf with ⟨-, hf⟩ | ⟨-, hf⟩
    ·
      exact frs_t hR (fw_readRemarks_198 hself4 hf) (fun _ h => h) (fun _ h => h)
    ·
      exact frs_t hR (fw_readRemarks_199 hself4 hf) (fun _ h => h) (fun _ h => h)
theorem fw_readRemarks_132 {o : Int32 × MS} {self4 : Int32 → Int32 → (Nat → Int32) → (Nat → Nat → Int32) → Option (Int32 × MS)} {x1 : Int32} {x2 : Int32} {x3 : Int32} {x4 : Int32} {x5 : Int32} {I : Nat → Int32} {A : Nat → Nat → Int32} (hself4 : ∀ (z0 : Int32) (z1 : Int32) (I : Nat → Int32) (A : Nat → Nat → Int32) (o : Int32 × MS), self4 z0 z1 I A = some o → FrS [37] [14, 15] I A o.2.1 o.2.2) (hf : f_readRemarks_132 self4 x1 x2 x3 x4 x5 I A = some o) : FrS [37] [14, 15] I A o.2.1 o.2.2 := by
  have hR : FrS [37] [14, 15] I A I A := frs_0
  unfold f_readRemarks_132 at hf
  rcases m_ifE hf with ⟨-, hf⟩ | ⟨-, hf⟩
  ·
    exact frs_t hR (fw_readRemarks_157 hself4 hf) (fun _ h => h) (fun _ h => h)
  ·
    rcases m_ifE hf with ⟨-, hf⟩ | ⟨-, hf⟩
    ·
      obtain ⟨or1, ho, hf⟩ := m_clE hf
      replace hR := frs_t hR (fw_fault ho) (by decide) (by decide)
      clear ho
      cases hf
      exact hR
    ·
      exact frs_t hR (fw_readRemarks_157 hself4 hf) (fun _ h => h) (fun _ h => h)
theorem fw_readRemarks_119 {o : Int32 × MS} {self4 : Int32 → Int32 → (Nat → Int32) → (Nat → Nat → Int32) → Option (Int32 × MS)} {self59 : Int32 → Int32 → Int32 → Int32 → Int32 → (Nat → Int32) → (Nat → Nat → Int32) → Option (Int32 × MS)} {x1 : Int32} {x2 : Int32} {x3 : Int32} {x4 : Int32} {x5 : Int32} {I : Nat → Int32} {A : Nat → Nat → Int32} (hself4 : ∀ (z0 : Int32) (z1 : Int32) (I : Nat → Int32) (A : Nat → Nat → Int32) (o : Int32 × MS), self4 z0 z1 I A = some o → FrS [37] [14, 15] I A o.2.1 o.2.2) (hself59 : ∀ (z0 : Int32) (z1 : Int32) (z2 : Int32) (z3 : Int32) (z4 : Int32) (I : Nat → Int32) (A : Nat → Nat → Int32) (o : Int32 × MS), self59 z0 z1 z2 z3 z4 I A = some o → FrS [37] [14, 15] I A o.2.1 o.2.2) (hf : f_readRemarks_119 self4 self59 x1 x2 x3 x4 x5 I A = some o) : FrS [37] [14, 15] I A o.2.1 o.2.2 := by
  have hR : FrS [37] [14, 15] I A I A := frs_0
  unfold f_readRemarks_119 at hf
  obtain ⟨v1, ev, hf⟩ := m_bndE hf
  clear ev
  obtain ⟨I2, ev, hf⟩ := m_bndE hf
  replace hR := frs_I hR (by decide) ev
  clear ev
  exact frs_t hR (hself59 _ _ _ _ _ _ _ _ hf) (fun _ h => h) (fun _ h => h)
theorem fw_readRemarks_96 {o : Int32 × MS} {self4 : Int32 → Int32 → (Nat → Int32) → (Nat → Nat → Int32) → Option (Int32 × MS)} {self59 : Int32 → Int32 → Int32 → Int32 → Int32 → (Nat → Int32) → (Nat → Nat → Int32) → Option (Int32 × MS)} {x1 : Int32} {x2 : Int32} {x3 : Int32} {x4 : Int32} {x5 : Int32} {I : Nat → Int32} {A : Nat → Nat → Int32} (hself4 : ∀ (z0 : Int32) (z1 : Int32) (I : Nat → Int32) (A : Nat → Nat → Int32) (o : Int32 × MS), self4 z0 z1 I A = some o → FrS [37] [14, 15] I A o.2.1 o.2.2) (hself59 : ∀ (z0 : Int32) (z1 : Int32) (z2 : Int32) (z3 : Int32) (z4 : Int32) (I : Nat → Int32) (A : Nat → Nat → Int32) (o : Int32 × MS), self59 z0 z1 z2 z3 z4 I A = some o → FrS [37] [14, 15] I A o.2.1 o.2.2) (hf : f_readRemarks_96 self4 self59 x1 x2 x3 x4 x5 I A = some o) : FrS [37] [14, 15] I A o.2.1 o.2.2 := by
  have hR : FrS [37] [14, 15] I A I A := frs_0
  unfold f_readRemarks_96 at hf
  rcases m_ifE hf with ⟨-, hf⟩ | ⟨-, hf⟩
  ·
    obtain ⟨or1, ho, hf⟩ := m_clE hf
    replace hR := frs_t hR (fw_look ho) (by decide) (by decide)
    clear ho
    rcases m_ifE hf with ⟨-, hf⟩ | ⟨-, hf⟩
    ·
      obtain ⟨or2, ho, hf⟩ := m_clE hf
      replace hR := frs_t hR (fw_fault ho) (by decide) (by decide)
      clear ho
      cases hf
      exact hR
    ·
      exact frs_t hR (fw_readRemarks_119 hself4 hself59 hf) (fun _ h => h) (fun _ h => h)
  ·
    exact frs_t hR (fw_readRemarks_119 hself4 hself59 hf) (fun _ h => h) (fun _ h => h)
theorem fw_readRemarks_59s {o : Int32 × MS} {self4 : Int32 → Int32 → (Nat → Int32) → (Nat → Nat → Int32) → Option (Int32 × MS)} {self59 : Int32 → Int32 → Int32 → Int32 → Int32 → (Nat → Int32) → (Nat → Nat → Int32) → Option (Int32 × MS)} {x1 : Int32} {x2 : Int32} {x3 : Int32} {x4 : Int32} {x5 : Int32} {I : Nat → Int32} {A : Nat → Nat → Int32} (hself4 : ∀ (z0 : Int32) (z1 : Int32) (I : Nat → Int32) (A : Nat → Nat → Int32) (o : Int32 × MS), self4 z0 z1 I A = some o → FrS [37] [14, 15] I A o.2.1 o.2.2) (hself59 : ∀ (z0 : Int32) (z1 : Int32) (z2 : Int32) (z3 : Int32) (z4 : Int32) (I : Nat → Int32) (A : Nat → Nat → Int32) (o : Int32 × MS), self59 z0 z1 z2 z3 z4 I A = some o → FrS [37] [14, 15] I A o.2.1 o.2.2) (hf : f_readRemarks_59s self4 self59 x1 x2 x3 x4 x5 I A = some o) : FrS [37] [14, 15] I A o.2.1 o.2.2 := by
  have hR : FrS [37] [14, 15] I A I A := frs_0
  unfold f_readRemarks_59s at hf
  rcases m_ifE hf with ⟨-, hf⟩ | ⟨-, hf⟩
  ·
    exact frs_t hR (fw_readRemarks_132 hself4 hf) (fun _ h => h) (fun _ h => h)
  ·
    rcases m_ifE hf with ⟨-, hf⟩ | ⟨-, hf⟩
    ·
      obtain ⟨or1, ho, hf⟩ := m_clE hf
      replace hR := frs_t hR (fw_look ho) (by decide) (by decide)
      clear ho
      rcases m_ifE hf with ⟨-, hf⟩ | ⟨-, hf⟩
      ·
        exact frs_t hR (fw_readRemarks_132 hself4 hf) (fun _ h => h) (fun _ h => h)
      ·
        exact frs_t hR (fw_readRemarks_96 hself4 hself59 hf) (fun _ h => h) (fun _ h => h)
    ·
      obtain ⟨or2, ho, hf⟩ := m_clE hf
      replace hR := frs_t hR (fw_look ho) (by decide) (by decide)
      clear ho
      rcases m_ifE hf with ⟨-, hf⟩ | ⟨-, hf⟩
      ·
        exact frs_t hR (fw_readRemarks_132 hself4 hf) (fun _ h => h) (fun _ h => h)
      ·
        exact frs_t hR (fw_readRemarks_96 hself4 hself59 hf) (fun _ h => h) (fun _ h => h)
theorem fw_readRemarks_59 {self4 : Int32 → Int32 → (Nat → Int32) → (Nat → Nat → Int32) → Option (Int32 × MS)} (hself4 : ∀ (z0 : Int32) (z1 : Int32) (I : Nat → Int32) (A : Nat → Nat → Int32) (o : Int32 × MS), self4 z0 z1 I A = some o → FrS [37] [14, 15] I A o.2.1 o.2.2) (n : Nat) : ∀ (y0 : Int32) (y1 : Int32) (y2 : Int32) (y3 : Int32) (y4 : Int32) (I : Nat → Int32) (A : Nat → Nat → Int32) (o : Int32 × MS), f_readRemarks_59 self4 n y0 y1 y2 y3 y4 I A = some o → FrS [37] [14, 15] I A o.2.1 o.2.2 := by
  induction n with
  | zero => intro y0 y1 y2 y3 y4 I A o hf; cases hf
  | succ n ih => intro y0 y1 y2 y3 y4 I A o hf; exact fw_readRemarks_59s hself4 ih hf
theorem fw_readRemarks_41 {o : Int32 × MS} {self4 : Int32 → Int32 → (Nat → Int32) → (Nat → Nat → Int32) → Option (Int32 × MS)} {x1 : Int32} {x2 : Int32} {x3 : Int32} {t0 : Int32} {I : Nat → Int32} {A : Nat → Nat → Int32} (hself4 : ∀ (z0 : Int32) (z1 : Int32) (I : Nat → Int32) (A : Nat → Nat → Int32) (o : Int32 × MS), self4 z0 z1 I A = some o → FrS [37] [14, 15] I A o.2.1 o.2.2) (hf : f_readRemarks_41 self4 x1 x2 x3 t0 I A = some o) : FrS [37] [14, 15] I A o.2.1 o.2.2 := by
  have hR : FrS [37] [14, 15] I A I A := frs_0
  unfold f_readRemarks_41 at hf
  obtain ⟨v1, ev, hf⟩ := m_bndE hf
  clear ev
  obtain ⟨I2, ev, hf⟩ := m_bndE hf
  replace hR := frs_I hR (by decide) ev
  clear ev
  exact frs_t hR (fw_readRemarks_59 hself4 mFuel _ _ _ _ _ _ _ _ hf) (fun _ h => h) (fun _ h => h)
theorem fw_readRemarks_22 {o : Int32 × MS} {self4 : Int32 → Int32 → (Nat → Int32) → (Nat → Nat → Int32) → Option (Int32 × MS)} {x1 : Int32} {x2 : Int32} {I : Nat → Int32} {A : Nat → Nat → Int32} (hself4 : ∀ (z0 : Int32) (z1 : Int32) (I : Nat → Int32) (A : Nat → Nat → Int32) (o : Int32 × MS), self4 z0 z1 I A = some o → FrS [37] [14, 15] I A o.2.1 o.2.2) (hf : f_readRemarks_22 self4 x1 x2 I A = some o) : FrS [37] [14, 15] I A o.2.1 o.2.2 := by
  have hR : FrS [37] [14, 15] I A I A := frs_0
  unfold f_readRemarks_22 at hf
  obtain ⟨or1, ho, hf⟩ := m_clE hf
  replace hR := frs_t hR (fw_look ho) (by decide) (by decide)
  clear ho
  rcases m_ifE hf with ⟨-, hf⟩ | ⟨-, hf⟩
  ·
    exact frs_t hR (fw_readRemarks_41 hself4 hf) (fun _ h => h) (fun _ h => h)
  ·
    exact frs_t hR (fw_readRemarks_41 hself4 hf) (fun _ h => h) (fun _ h => h)
theorem fw_readRemarks_4s {o : Int32 × MS} {self4 : Int32 → Int32 → (Nat → Int32) → (Nat → Nat → Int32) → Option (Int32 × MS)} {x1 : Int32} {x2 : Int32} {I : Nat → Int32} {A : Nat → Nat → Int32} (hself4 : ∀ (z0 : Int32) (z1 : Int32) (I : Nat → Int32) (A : Nat → Nat → Int32) (o : Int32 × MS), self4 z0 z1 I A = some o → FrS [37] [14, 15] I A o.2.1 o.2.2) (hf : f_readRemarks_4s self4 x1 x2 I A = some o) : FrS [37] [14, 15] I A o.2.1 o.2.2 := by
  have hR : FrS [37] [14, 15] I A I A := frs_0
  unfold f_readRemarks_4s at hf
  obtain ⟨or1, ho, hf⟩ := m_clE hf
  replace hR := frs_t hR (fw_look ho) (by decide) (by decide)
  clear ho
  rcases m_ifE hf with ⟨-, hf⟩ | ⟨-, hf⟩
  ·
    exact frs_t hR (fw_readRemarks_22 hself4 hf) (fun _ h => h) (fun _ h => h)
  ·
    obtain ⟨or2, ho, hf⟩ := m_clE hf
    replace hR := frs_t hR (fw_look ho) (by decide) (by decide)
    clear ho
    rcases m_ifE hf with ⟨-, hf⟩ | ⟨-, hf⟩
    ·
      exact frs_t hR (fw_readRemarks_22 hself4 hf) (fun _ h => h) (fun _ h => h)
    ·
      cases hf
      exact hR
theorem fw_readRemarks_4   (n : Nat) : ∀ (y0 : Int32) (y1 : Int32) (I : Nat → Int32) (A : Nat → Nat → Int32) (o : Int32 × MS), f_readRemarks_4  n y0 y1 I A = some o → FrS [37] [14, 15] I A o.2.1 o.2.2 := by
  induction n with
  | zero => intro y0 y1 I A o hf; cases hf
  | succ n ih => intro y0 y1 I A o hf; exact fw_readRemarks_4s  ih hf
theorem fw_readRemarks_0 {o : Int32 × MS} {x1 : Int32} {x2 : Int32} {I : Nat → Int32} {A : Nat → Nat → Int32}  (hf : f_readRemarks_0 x1 x2 I A = some o) : FrS [37] [14, 15] I A o.2.1 o.2.2 := by
  have hR : FrS [37] [14, 15] I A I A := frs_0
  unfold f_readRemarks_0 at hf
  obtain ⟨or1, ho, hf⟩ := m_clE hf
  replace hR := frs_t hR (fw_blanks ho) (by decide) (by decide)
  clear ho
  exact frs_t hR (fw_readRemarks_4  mFuel _ _ _ _ _ hf) (fun _ h => h) (fun _ h => h)
theorem fw_readRemarks {o : Int32 × MS} {x1 : Int32} {x2 : Int32} {I : Nat → Int32} {A : Nat → Nat → Int32} (hf : f_readRemarks x1 x2 I A = some o) : FrS [37] [14, 15] I A o.2.1 o.2.2 := fw_readRemarks_0  hf
theorem fw_goesOnWith_61 {o : Int32 × MS} {t0 : Int32} {I : Nat → Int32} {A : Nat → Nat → Int32}  (hf : f_goesOnWith_61 t0 I A = some o) : FrS [] [] I A o.2.1 o.2.2 := by
  have hR : FrS [] [] I A I A := frs_0
  unfold f_goesOnWith_61 at hf
  obtain ⟨-, hf⟩ := m_chkE hf
  cases hf
  exact hR
theorem fw_goesOnWith_60 {o : Int32 × MS} {I : Nat → Int32} {A : Nat → Nat → Int32}  (hf : f_goesOnWith_60 I A = some o) : FrS [] [] I A o.2.1 o.2.2 := by
  have hR : FrS [] [] I A I A := frs_0
  unfold f_goesOnWith_60 at hf
  exact frs_t hR (fw_goesOnWith_61  hf) (fun _ h => h) (fun _ h => h)
theorem fw_goesOnWith_0 {o : Int32 × MS} {x1 : Int32} {x2 : Int32} {x3 : Int32} {I : Nat → Int32} {A : Nat → Nat → Int32}  (hf : f_goesOnWith_0 x1 x2 x3 I A = some o) : FrS [] [] I A o.2.1 o.2.2 := by
  have hR : FrS [] [] I A I A := frs_0
  unfold f_goesOnWith_0 at hf
  obtain ⟨v1, ev, hf⟩ := m_bndE hf
  clear ev
  rcases m_ifE hf with ⟨-, hf⟩ | ⟨-, hf⟩
  ·
    exact frs_t hR (fw_goesOnWith_60  hf) (fun _ h => h) (fun _ h => h)
  ·
    obtain ⟨-, hf⟩ := m_chkE hf
    obtain ⟨v2, ev, hf⟩ := m_bndE hf
    clear ev
    rcases m_ifE hf with ⟨-, hf⟩ | ⟨-, hf⟩
    ·
      obtain ⟨v3, ev, hf⟩ := m_bndE hf
      clear ev
      obtain ⟨-, hf⟩ := m_chkE hf
      obtain ⟨v4, ev, hf⟩ := m_bndE hf
      clear ev
      rcases m_ifE hf with ⟨-, hf⟩ | ⟨-, hf⟩
      ·
        obtain ⟨v5, ev, hf⟩ := m_bndE hf
        clear ev
        obtain ⟨-, hf⟩ := m_chkE hf
        obtain ⟨v6, ev, hf⟩ := m_bndE hf
        clear ev
        rcases m_ifE hf with ⟨-, hf⟩ | ⟨-, hf⟩
        ·
          exact frs_t hR (fw_goesOnWith_61  hf) (fun _ h => h) (fun _ h => h)
        ·
          exact frs_t hR (fw_goesOnWith_60  hf) (fun _ h => h) (fun _ h => h)
      ·
        exact frs_t hR (fw_goesOnWith_60  hf) (fun _ h => h) (fun _ h => h)
    ·
      exact frs_t hR (fw_goesOnWith_60  hf) (fun _ h => h) (fun _ h => h)
theorem fw_goesOnWith {o : Int32 × MS} {x1 : Int32} {x2 : Int32} {x3 : Int32} {I : Nat → Int32} {A : Nat → Nat → Int32} (hf : f_goesOnWith x1 x2 x3 I A = some o) : FrS [] [] I A o.2.1 o.2.2 := fw_goesOnWith_0  hf
theorem fw_resultHere_148 {o : Int32 × MS} {t0 : Int32} {I : Nat → Int32} {A : Nat → Nat → Int32}  (hf : f_resultHere_148 t0 I A = some o) : FrS [] [] I A o.2.1 o.2.2 := by
  have hR : FrS [] [] I A I A := frs_0
  unfold f_resultHere_148 at hf
  cases hf
  exact hR
theorem fw_resultHere_138 {o : Int32 × MS} {t0 : Int32} {I : Nat → Int32} {A : Nat → Nat → Int32}  (hf : f_resultHere_138 t0 I A = some o) : FrS [] [] I A o.2.1 o.2.2 := by
  have hR : FrS [] [] I A I A := frs_0
  unfold f_resultHere_138 at hf
  rcases m_ifE hf with ⟨-, hf⟩ | ⟨-, hf⟩
  ·
    exact frs_t hR (fw_resultHere_148  hf) (fun _ h => h) (fun _ h => h)
  ·
    exact frs_t hR (fw_resultHere_148  hf) (fun _ h => h) (fun _ h => h)
theorem fw_resultHere_137 {o : Int32 × MS} {I : Nat → Int32} {A : Nat → Nat → Int32}  (hf : f_resultHere_137 I A = some o) : FrS [] [] I A o.2.1 o.2.2 := by
  have hR : FrS [] [] I A I A := frs_0
  unfold f_resultHere_137 at hf
  exact frs_t hR (fw_resultHere_138  hf) (fun _ h => h) (fun _ h => h)
theorem fw_resultHere_0 {o : Int32 × MS} {I : Nat → Int32} {A : Nat → Nat → Int32}  (hf : f_resultHere_0 I A = some o) : FrS [] [] I A o.2.1 o.2.2 := by
  have hR : FrS [] [] I A I A := frs_0
  unfold f_resultHere_0 at hf
  obtain ⟨or1, ho, hf⟩ := m_clE hf
  replace hR := frs_t hR (fw_look ho) (by decide) (by decide)
  clear ho
  rcases m_ifE hf with ⟨-, hf⟩ | ⟨-, hf⟩
  ·
    cases hf
    exact hR
  ·
    obtain ⟨or2, ho, hf⟩ := m_clE hf
    replace hR := frs_t hR (fw_goesOnWith ho) (by decide) (by decide)
    clear ho
    rcases m_ifE hf with ⟨-, hf⟩ | ⟨-, hf⟩
    ·
      obtain ⟨or3, ho, hf⟩ := m_clE hf
      replace hR := frs_t hR (fw_goesOnWith ho) (by decide) (by decide)
      clear ho
      rcases m_ifE hf with ⟨-, hf⟩ | ⟨-, hf⟩
      ·
        obtain ⟨or4, ho, hf⟩ := m_clE hf
        replace hR := frs_t hR (fw_goesOnWith ho) (by decide) (by decide)
        clear ho
        rcases m_ifE hf with ⟨-, hf⟩ | ⟨-, hf⟩
        ·
          exact frs_t hR (fw_resultHere_137  hf) (fun _ h => h) (fun _ h => h)
        ·
          obtain ⟨v5, ev, hf⟩ := m_bndE hf
          clear ev
          rcases m_ifE hf with ⟨-, hf⟩ | ⟨-, hf⟩
          ·
            exact frs_t hR (fw_resultHere_137  hf) (fun _ h => h) (fun _ h => h)
          ·
            obtain ⟨v6, ev, hf⟩ := m_bndE hf
            clear ev
            obtain ⟨-, hf⟩ := m_chkE hf
            obtain ⟨v7, ev, hf⟩ := m_bndE hf
            clear ev
            rcases m_ifE hf with ⟨-, hf⟩ | ⟨-, hf⟩
            ·
              obtain ⟨v8, ev, hf⟩ := m_bndE hf
              clear ev
              obtain ⟨-, hf⟩ := m_chkE hf
              obtain ⟨v9, ev, hf⟩ := m_bndE hf
              clear ev
              rcases m_ifE hf with ⟨-, hf⟩ | ⟨-, hf⟩
              ·
                obtain ⟨v10, ev, hf⟩ := m_bndE hf
                clear ev
                obtain ⟨-, hf⟩ := m_chkE hf
                obtain ⟨v11, ev, hf⟩ := m_bndE hf
                clear ev
                rcases m_ifE hf with ⟨-, hf⟩ | ⟨-, hf⟩
                ·
                  obtain ⟨v12, ev, hf⟩ := m_bndE hf
                  clear ev
                  obtain ⟨-, hf⟩ := m_chkE hf
                  obtain ⟨v13, ev, hf⟩ := m_bndE hf
                  clear ev
                  rcases m_ifE hf with ⟨-, hf⟩ | ⟨-, hf⟩
                  ·
                    exact frs_t hR (fw_resultHere_138  hf) (fun _ h => h) (fun _ h => h)
                  ·
                    exact frs_t hR (fw_resultHere_137  hf) (fun _ h => h) (fun _ h => h)
                ·
                  exact frs_t hR (fw_resultHere_137  hf) (fun _ h => h) (fun _ h => h)
              ·
                exact frs_t hR (fw_resultHere_137  hf) (fun _ h => h) (fun _ h => h)
            ·
              exact frs_t hR (fw_resultHere_137  hf) (fun _ h => h) (fun _ h => h)
      ·
        cases hf
        exact hR
    ·
      cases hf
      exact hR
theorem fw_resultHere {o : Int32 × MS}  {I : Nat → Int32} {A : Nat → Nat → Int32} (hf : f_resultHere  I A = some o) : FrS [] [] I A o.2.1 o.2.2 := fw_resultHere_0  hf
theorem fw_addMarkTo_0 {o : Int32 × MS} {x1 : Int32} {x2 : Int32} {x3 : Int32} {I : Nat → Int32} {A : Nat → Nat → Int32}  (hf : f_addMarkTo_0 x1 x2 x3 I A = some o) : FrS [] [12, 13] I A o.2.1 o.2.2 := by
  have hR : FrS [] [12, 13] I A I A := frs_0
  unfold f_addMarkTo_0 at hf
  obtain ⟨v1, ev, hf⟩ := m_bndE hf
  clear ev
  obtain ⟨v2, ev, hf⟩ := m_bndE hf
  clear ev
  obtain ⟨v3, ev, hf⟩ := m_bndE hf
  clear ev
  obtain ⟨-, hf⟩ := m_chkE hf
  obtain ⟨v4, ev, hf⟩ := m_bndE hf
  clear ev
  obtain ⟨v5, ev, hf⟩ := m_bndE hf
  clear ev
  obtain ⟨-, hf⟩ := m_chkE hf
  obtain ⟨A6, ev, hf⟩ := m_bndE hf
  replace hR := frs_A hR (by decide) ev
  clear ev
  obtain ⟨-, hf⟩ := m_chkE hf
  obtain ⟨v7, ev, hf⟩ := m_bndE hf
  clear ev
  obtain ⟨v8, ev, hf⟩ := m_bndE hf
  clear ev
  obtain ⟨-, hf⟩ := m_chkE hf
  obtain ⟨A9, ev, hf⟩ := m_bndE hf
  replace hR := frs_A hR (by decide) ev
  clear ev
  cases hf
  exact hR
theorem fw_addMarkTo {o : Int32 × MS} {x1 : Int32} {x2 : Int32} {x3 : Int32} {I : Nat → Int32} {A : Nat → Nat → Int32} (hf : f_addMarkTo x1 x2 x3 I A = some o) : FrS [] [12, 13] I A o.2.1 o.2.2 := fw_addMarkTo_0  hf
theorem fw_readMarks_236 {o : Int32 × MS} {I : Nat → Int32} {A : Nat → Nat → Int32}  (hf : f_readMarks_236 I A = some o) : FrS [37] [12, 13] I A o.2.1 o.2.2 := by
  have hR : FrS [37] [12, 13] I A I A := frs_0
  unfold f_readMarks_236 at hf
  obtain ⟨or1, ho, hf⟩ := m_clE hf
  replace hR := frs_t hR (fw_fault ho) (by decide) (by decide)
  clear ho
  cases hf
  exact hR
theorem fw_readMarks_269 {o : Int32 × MS} {x3 : Int32} {I : Nat → Int32} {A : Nat → Nat → Int32}  (hf : f_readMarks_269 x3 I A = some o) : FrS [37] [12, 13] I A o.2.1 o.2.2 := by
  have hR : FrS [37] [12, 13] I A I A := frs_0
  unfold f_readMarks_269 at hf
  obtain ⟨or1, ho, hf⟩ := m_clE hf
  replace hR := frs_t hR (fw_fault ho) (by decide) (by decide)
  clear ho
  cases hf
  exact hR
theorem fw_readMarks_221 {o : Int32 × MS} {self144 : Int32 → Int32 → (Nat → Int32) → (Nat → Nat → Int32) → Option (Int32 × MS)} {x1 : Int32} {x2 : Int32} {x3 : Int32} {x4 : Int32} {x5 : Int32} {I : Nat → Int32} {A : Nat → Nat → Int32} (hself144 : ∀ (z0 : Int32) (z1 : Int32) (I : Nat → Int32) (A : Nat → Nat → Int32) (o : Int32 × MS), self144 z0 z1 I A = some o → FrS [37] [12, 13] I A o.2.1 o.2.2) (hf : f_readMarks_221 self144 x1 x2 x3 x4 x5 I A = some o) : FrS [37] [12, 13] I A o.2.1 o.2.2 := by
  have hR : FrS [37] [12, 13] I A I A := frs_0
  unfold f_readMarks_221 at hf
  rcases m_ifE hf with ⟨-, hf⟩ | ⟨-, hf⟩
  ·
    exact frs_t hR (fw_readMarks_236  hf) (fun _ h => h) (fun _ h => h)
  ·
    obtain ⟨or1, ho, hf⟩ := m_clE hf
    replace hR := frs_t hR (fw_look ho) (by decide) (by decide)
    clear ho
    obtain ⟨or2, ho, hf⟩ := m_clE hf
    replace hR := frs_t hR (fw_isDigit ho) (by decide) (by decide)
    clear ho
    rcases m_ifE hf with ⟨-, hf⟩ | ⟨-, hf⟩
    ·
      rcases m_ifE hf with ⟨-, hf⟩ | ⟨-, hf⟩
      ·
        exact frs_t hR (fw_readMarks_269  hf) (fun _ h => h) (fun _ h => h)
      ·
        obtain ⟨v3, ev, hf⟩ := m_bndE hf
        clear ev
        obtain ⟨v4, ev, hf⟩ := m_bndE hf
        clear ev
        obtain ⟨-, hf⟩ := m_chkE hf
        obtain ⟨v5, ev, hf⟩ := m_bndE hf
        clear ev
        rcases m_ifE hf with ⟨-, hf⟩ | ⟨-, hf⟩
        ·
          exact frs_t hR (fw_readMarks_269  hf) (fun _ h => h) (fun _ h => h)
        ·
          obtain ⟨or6, ho, hf⟩ := m_clE hf
          replace hR := frs_t hR (fw_addMarkTo ho) (by decide) (by decide)
          clear ho
          obtain ⟨or7, ho, hf⟩ := m_clE hf
          replace hR := frs_t hR (fw_blanks ho) (by decide) (by decide)
          clear ho
          exact frs_t hR (hself144 _ _ _ _ _ hf) (fun _ h => h) (fun _ h => h)
    ·
      exact frs_t hR (fw_readMarks_236  hf) (fun _ h => h) (fun _ h => h)
theorem fw_readMarks_174s {o : Int32 × MS} {self144 : Int32 → Int32 → (Nat → Int32) → (Nat → Nat → Int32) → Option (Int32 × MS)} {self174 : Int32 → Int32 → Int32 → Int32 → Int32 → (Nat → Int32) → (Nat → Nat → Int32) → Option (Int32 × MS)} {x1 : Int32} {x2 : Int32} {x3 : Int32} {x4 : Int32} {x5 : Int32} {I : Nat → Int32} {A : Nat → Nat → Int32} (hself144 : ∀ (z0 : Int32) (z1 : Int32) (I : Nat → Int32) (A : Nat → Nat → Int32) (o : Int32 × MS), self144 z0 z1 I A = some o → FrS [37] [12, 13] I A o.2.1 o.2.2) (hself174 : ∀ (z0 : Int32) (z1 : Int32) (z2 : Int32) (z3 : Int32) (z4 : Int32) (I : Nat → Int32) (A : Nat → Nat → Int32) (o : Int32 × MS), self174 z0 z1 z2 z3 z4 I A = some o → FrS [37] [12, 13] I A o.2.1 o.2.2) (hf : f_readMarks_174s self144 self174 x1 x2 x3 x4 x5 I A = some o) : FrS [37] [12, 13] I A o.2.1 o.2.2 := by
  have hR : FrS [37] [12, 13] I A I A := frs_0
  unfold f_readMarks_174s at hf
  obtain ⟨or1, ho, hf⟩ := m_clE hf
  replace hR := frs_t hR (fw_look ho) (by decide) (by decide)
  clear ho
  obtain ⟨or2, ho, hf⟩ := m_clE hf
  replace hR := frs_t hR (fw_isDigit ho) (by decide) (by decide)
  clear ho
  rcases m_ifE hf with ⟨-, hf⟩ | ⟨-, hf⟩
  ·
    exact frs_t hR (fw_readMarks_221 hself144 hf) (fun _ h => h) (fun _ h => h)
  ·
    rcases m_ifE hf with ⟨-, hf⟩ | ⟨-, hf⟩
    ·
      exact frs_t hR (fw_readMarks_221 hself144 hf) (fun _ h => h) (fun _ h => h)
    ·
      obtain ⟨v3, ev, hf⟩ := m_bndE hf
      clear ev
      obtain ⟨or4, ho, hf⟩ := m_clE hf
      replace hR := frs_t hR (fw_look ho) (by decide) (by decide)
      clear ho
      obtain ⟨v5, ev, hf⟩ := m_bndE hf
      clear ev
      obtain ⟨v6, ev, hf⟩ := m_bndE hf
      clear ev
      obtain ⟨v7, ev, hf⟩ := m_bndE hf
      clear ev
      obtain ⟨v8, ev, hf⟩ := m_bndE hf
      clear ev
      obtain ⟨I9, ev, hf⟩ := m_bndE hf
      replace hR := frs_I hR (by decide) ev
      clear ev
      exact frs_t hR (hself174 _ _ _ _ _ _ _ _ hf) (fun _ h => h) (fun _ h => h)
theorem fw_readMarks_174 {self144 : Int32 → Int32 → (Nat → Int32) → (Nat → Nat → Int32) → Option (Int32 × MS)} (hself144 : ∀ (z0 : Int32) (z1 : Int32) (I : Nat → Int32) (A : Nat → Nat → Int32) (o : Int32 × MS), self144 z0 z1 I A = some o → FrS [37] [12, 13] I A o.2.1 o.2.2) (n : Nat) : ∀ (y0 : Int32) (y1 : Int32) (y2 : Int32) (y3 : Int32) (y4 : Int32) (I : Nat → Int32) (A : Nat → Nat → Int32) (o : Int32 × MS), f_readMarks_174 self144 n y0 y1 y2 y3 y4 I A = some o → FrS [37] [12, 13] I A o.2.1 o.2.2 := by
  induction n with
  | zero => intro y0 y1 y2 y3 y4 I A o hf; cases hf
  | succ n ih => intro y0 y1 y2 y3 y4 I A o hf; exact fw_readMarks_174s hself144 ih hf
theorem fw_readMarks_144s {o : Int32 × MS} {self144 : Int32 → Int32 → (Nat → Int32) → (Nat → Nat → Int32) → Option (Int32 × MS)} {x1 : Int32} {x2 : Int32} {I : Nat → Int32} {A : Nat → Nat → Int32} (hself144 : ∀ (z0 : Int32) (z1 : Int32) (I : Nat → Int32) (A : Nat → Nat → Int32) (o : Int32 × MS), self144 z0 z1 I A = some o → FrS [37] [12, 13] I A o.2.1 o.2.2) (hf : f_readMarks_144s self144 x1 x2 I A = some o) : FrS [37] [12, 13] I A o.2.1 o.2.2 := by
  have hR : FrS [37] [12, 13] I A I A := frs_0
  unfold f_readMarks_144s at hf
  obtain ⟨or1, ho, hf⟩ := m_clE hf
  replace hR := frs_t hR (fw_look ho) (by decide) (by decide)
  clear ho
  rcases m_ifE hf with ⟨-, hf⟩ | ⟨-, hf⟩
  ·
    obtain ⟨v2, ev, hf⟩ := m_bndE hf
    clear ev
    obtain ⟨I3, ev, hf⟩ := m_bndE hf
    replace hR := frs_I hR (by decide) ev
    clear ev
    exact frs_t hR (fw_readMarks_174 hself144 mFuel _ _ _ _ _ _ _ _ hf) (fun _ h => h) (fun _ h => h)
  ·
    cases hf
    exact hR
theorem fw_readMarks_144   (n : Nat) : ∀ (y0 : Int32) (y1 : Int32) (I : Nat → Int32) (A : Nat → Nat → Int32) (o : Int32 × MS), f_readMarks_144  n y0 y1 I A = some o → FrS [37] [12, 13] I A o.2.1 o.2.2 := by
  induction n with
  | zero => intro y0 y1 I A o hf; cases hf
  | succ n ih => intro y0 y1 I A o hf; exact fw_readMarks_144s  ih hf
theorem fw_readMarks_132 {o : Int32 × MS} {x1 : Int32} {x2 : Int32} {x4 : Int32} {I : Nat → Int32} {A : Nat → Nat → Int32}  (hf : f_readMarks_132 x1 x2 x4 I A = some o) : FrS [37] [12, 13] I A o.2.1 o.2.2 := by
  have hR : FrS [37] [12, 13] I A I A := frs_0
  unfold f_readMarks_132 at hf
  obtain ⟨or1, ho, hf⟩ := m_clE hf
  replace hR := frs_t hR (fw_addMarkTo ho) (by decide) (by decide)
  clear ho
  obtain ⟨or2, ho, hf⟩ := m_clE hf
  replace hR := frs_t hR (fw_blanks ho) (by decide) (by decide)
  clear ho
  exact frs_t hR (fw_readMarks_144  mFuel _ _ _ _ _ hf) (fun _ h => h) (fun _ h => h)
theorem fw_readMarks_120 {o : Int32 × MS} {x1 : Int32} {x2 : Int32} {t0 : Int32} {I : Nat → Int32} {A : Nat → Nat → Int32}  (hf : f_readMarks_120 x1 x2 t0 I A = some o) : FrS [37] [12, 13] I A o.2.1 o.2.2 := by
  have hR : FrS [37] [12, 13] I A I A := frs_0
  unfold f_readMarks_120 at hf
  obtain ⟨v1, ev, hf⟩ := m_bndE hf
  clear ev
  obtain ⟨I2, ev, hf⟩ := m_bndE hf
  replace hR := frs_I hR (by decide) ev
  clear ev
  exact frs_t hR (fw_readMarks_132  hf) (fun _ h => h) (fun _ h => h)
theorem fw_readMarks_90 {o : Int32 × MS} {x1 : Int32} {x2 : Int32} {x3 : Int32} {t0 : Int32} {I : Nat → Int32} {A : Nat → Nat → Int32}  (hf : f_readMarks_90 x1 x2 x3 t0 I A = some o) : FrS [37] [12, 13] I A o.2.1 o.2.2 := by
  have hR : FrS [37] [12, 13] I A I A := frs_0
  unfold f_readMarks_90 at hf
  rcases m_ifE hf with ⟨-, hf⟩ | ⟨-, hf⟩
  ·
    rcases m_ifE hf with ⟨-, hf⟩ | ⟨-, hf⟩
    ·
      exact frs_t hR (fw_readMarks_120  hf) (fun _ h => h) (fun _ h => h)
    ·
      exact frs_t hR (fw_readMarks_120  hf) (fun _ h => h) (fun _ h => h)
  ·
    rcases m_ifE hf with ⟨-, hf⟩ | ⟨-, hf⟩
    ·
      exact frs_t hR (fw_readMarks_120  hf) (fun _ h => h) (fun _ h => h)
    ·
      exact frs_t hR (fw_readMarks_120  hf) (fun _ h => h) (fun _ h => h)
theorem fw_readMarks_76 {o : Int32 × MS} {x1 : Int32} {x2 : Int32} {x3 : Int32} {I : Nat → Int32} {A : Nat → Nat → Int32}  (hf : f_readMarks_76 x1 x2 x3 I A = some o) : FrS [37] [12, 13] I A o.2.1 o.2.2 := by
  have hR : FrS [37] [12, 13] I A I A := frs_0
  unfold f_readMarks_76 at hf
  obtain ⟨or1, ho, hf⟩ := m_clE hf
  replace hR := frs_t hR (fw_look ho) (by decide) (by decide)
  clear ho
  rcases m_ifE hf with ⟨-, hf⟩ | ⟨-, hf⟩
  ·
    exact frs_t hR (fw_readMarks_90  hf) (fun _ h => h) (fun _ h => h)
  ·
    exact frs_t hR (fw_readMarks_90  hf) (fun _ h => h) (fun _ h => h)
theorem fw_readMarks_56 {o : Int32 × MS} {x1 : Int32} {x2 : Int32} {x3 : Int32} {t0 : Int32} {I : Nat → Int32} {A : Nat → Nat → Int32}  (hf : f_readMarks_56 x1 x2 x3 t0 I A = some o) : FrS [37] [12, 13] I A o.2.1 o.2.2 := by
  have hR : FrS [37] [12, 13] I A I A := frs_0
  unfold f_readMarks_56 at hf
  obtain ⟨or1, ho, hf⟩ := m_clE hf
  replace hR := frs_t hR (fw_look ho) (by decide) (by decide)
  clear ho
  rcases m_ifE hf with ⟨-, hf⟩ | ⟨-, hf⟩
  ·
    exact frs_t hR (fw_readMarks_76  hf) (fun _ h => h) (fun _ h => h)
  ·
    obtain ⟨or2, ho, hf⟩ := m_clE hf
    replace hR := frs_t hR (fw_look ho) (by decide) (by decide)
    clear ho
    rcases m_ifE hf with ⟨-, hf⟩ | ⟨-, hf⟩
    ·
      exact frs_t hR (fw_readMarks_76  hf) (fun _ h => h) (fun _ h => h)
    ·
      exact frs_t hR (fw_readMarks_132  hf) (fun _ h => h) (fun _ h => h)
theorem fw_readMarks_36 {o : Int32 × MS} {x1 : Int32} {x2 : Int32} {t0 : Int32} {I : Nat → Int32} {A : Nat → Nat → Int32}  (hf : f_readMarks_36 x1 x2 t0 I A = some o) : FrS [37] [12, 13] I A o.2.1 o.2.2 := by
  have hR : FrS [37] [12, 13] I A I A := frs_0
  unfold f_readMarks_36 at hf
  obtain ⟨v1, ev, hf⟩ := m_bndE hf
  clear ev
  obtain ⟨I2, ev, hf⟩ := m_bndE hf
  replace hR := frs_I hR (by decide) ev
  clear ev
  rcases m_ifE hf with ⟨-, hf⟩ | ⟨-, hf⟩
  ·
    exact frs_t hR (fw_readMarks_56  hf) (fun _ h => h) (fun _ h => h)
  ·
    exact frs_t hR (fw_readMarks_56  hf) (fun _ h => h) (fun _ h => h)
theorem fw_readMarks_22 {o : Int32 × MS} {x1 : Int32} {x2 : Int32} {I : Nat → Int32} {A : Nat → Nat → Int32}  (hf : f_readMarks_22 x1 x2 I A = some o) : FrS [37] [12, 13] I A o.2.1 o.2.2 := by
  have hR : FrS [37] [12, 13] I A I A := frs_0
  unfold f_readMarks_22 at hf
  obtain ⟨or1, ho, hf⟩ := m_clE hf
  replace hR := frs_t hR (fw_look ho) (by decide) (by decide)
  clear ho
  rcases m_ifE hf with ⟨-, hf⟩ | ⟨-, hf⟩
  ·
    exact frs_t hR (fw_readMarks_36  hf) (fun _ h => h) (fun _ h => h)
  ·
    exact frs_t hR (fw_readMarks_36  hf) (fun _ h => h) (fun _ h => h)
theorem fw_readMarks_0 {o : Int32 × MS} {x1 : Int32} {x2 : Int32} {I : Nat → Int32} {A : Nat → Nat → Int32}  (hf : f_readMarks_0 x1 x2 I A = some o) : FrS [37] [12, 13] I A o.2.1 o.2.2 := by
  have hR : FrS [37] [12, 13] I A I A := frs_0
  unfold f_readMarks_0 at hf
  obtain ⟨or1, ho, hf⟩ := m_clE hf
  replace hR := frs_t hR (fw_blanks ho) (by decide) (by decide)
  clear ho
  obtain ⟨or2, ho, hf⟩ := m_clE hf
  replace hR := frs_t hR (fw_look ho) (by decide) (by decide)
  clear ho
  rcases m_ifE hf with ⟨-, hf⟩ | ⟨-, hf⟩
  ·
    exact frs_t hR (fw_readMarks_22  hf) (fun _ h => h) (fun _ h => h)
  ·
    obtain ⟨or3, ho, hf⟩ := m_clE hf
    replace hR := frs_t hR (fw_look ho) (by decide) (by decide)
    clear ho
    rcases m_ifE hf with ⟨-, hf⟩ | ⟨-, hf⟩
    ·
      exact frs_t hR (fw_readMarks_22  hf) (fun _ h => h) (fun _ h => h)
    ·
      exact frs_t hR (fw_readMarks_144  mFuel _ _ _ _ _ hf) (fun _ h => h) (fun _ h => h)
theorem fw_readMarks {o : Int32 × MS} {x1 : Int32} {x2 : Int32} {I : Nat → Int32} {A : Nat → Nat → Int32} (hf : f_readMarks x1 x2 I A = some o) : FrS [37] [12, 13] I A o.2.1 o.2.2 := fw_readMarks_0  hf
theorem fw_readMoveNumber_65s {o : Int32 × MS} {self65 : Int32 → Int32 → (Nat → Int32) → (Nat → Nat → Int32) → Option (Int32 × MS)} {x1 : Int32} {x2 : Int32} {I : Nat → Int32} {A : Nat → Nat → Int32} (hself65 : ∀ (z0 : Int32) (z1 : Int32) (I : Nat → Int32) (A : Nat → Nat → Int32) (o : Int32 × MS), self65 z0 z1 I A = some o → FrS [37] [] I A o.2.1 o.2.2) (hf : f_readMoveNumber_65s self65 x1 x2 I A = some o) : FrS [37] [] I A o.2.1 o.2.2 := by
  have hR : FrS [37] [] I A I A := frs_0
  unfold f_readMoveNumber_65s at hf
  obtain ⟨or1, ho, hf⟩ := m_clE hf
  replace hR := frs_t hR (fw_look ho) (by decide) (by decide)
  clear ho
  rcases m_ifE hf with ⟨-, hf⟩ | ⟨-, hf⟩
  ·
    obtain ⟨v4, ev, hf⟩ := m_bndE hf
    clear ev
    obtain ⟨I5, ev, hf⟩ := m_bndE hf
    replace hR := frs_I hR (by decide) ev
    clear ev
    exact frs_t hR (hself65 _ _ _ _ _ hf) (fun _ h => h) (fun _ h => h)
  ·
    rcases m_ifE hf with ⟨-, hf⟩ | ⟨-, hf⟩
    ·
      obtain ⟨or2, ho, hf⟩ := m_clE hf
      replace hR := frs_t hR (fw_blanks ho) (by decide) (by decide)
      clear ho
      cases hf
      exact hR
    ·
      obtain ⟨or3, ho, hf⟩ := m_clE hf
      replace hR := frs_t hR (fw_fault ho) (by decide) (by decide)
      clear ho
      cases hf
      exact hR
theorem fw_readMoveNumber_65   (n : Nat) : ∀ (y0 : Int32) (y1 : Int32) (I : Nat → Int32) (A : Nat → Nat → Int32) (o : Int32 × MS), f_readMoveNumber_65  n y0 y1 I A = some o → FrS [37] [] I A o.2.1 o.2.2 := by
  induction n with
  | zero => intro y0 y1 I A o hf; cases hf
  | succ n ih => intro y0 y1 I A o hf; exact fw_readMoveNumber_65s  ih hf
theorem fw_readMoveNumber_21s {o : Int32 × MS} {self21 : Int32 → Int32 → Int32 → (Nat → Int32) → (Nat → Nat → Int32) → Option (Int32 × MS)} {x1 : Int32} {x2 : Int32} {x3 : Int32} {I : Nat → Int32} {A : Nat → Nat → Int32} (hself21 : ∀ (z0 : Int32) (z1 : Int32) (z2 : Int32) (I : Nat → Int32) (A : Nat → Nat → Int32) (o : Int32 × MS), self21 z0 z1 z2 I A = some o → FrS [37] [] I A o.2.1 o.2.2) (hf : f_readMoveNumber_21s self21 x1 x2 x3 I A = some o) : FrS [37] [] I A o.2.1 o.2.2 := by
  have hR : FrS [37] [] I A I A := frs_0
  unfold f_readMoveNumber_21s at hf
  obtain ⟨or1, ho, hf⟩ := m_clE hf
  replace hR := frs_t hR (fw_look ho) (by decide) (by decide)
  clear ho
  obtain ⟨or2, ho, hf⟩ := m_clE hf
  replace hR := frs_t hR (fw_isDigit ho) (by decide) (by decide)
  clear ho
  rcases m_ifE hf with ⟨-, hf⟩ | ⟨-, hf⟩
  ·
    exact frs_t hR (fw_readMoveNumber_65  mFuel _ _ _ _ _ hf) (fun _ h => h) (fun _ h => h)
  ·
    rcases m_ifE hf with ⟨-, hf⟩ | ⟨-, hf⟩
    ·
      exact frs_t hR (fw_readMoveNumber_65  mFuel _ _ _ _ _ hf) (fun _ h => h) (fun _ h => h)
    ·
      obtain ⟨v3, ev, hf⟩ := m_bndE hf
      clear ev
      obtain ⟨or4, ho, hf⟩ := m_clE hf
      replace hR := frs_t hR (fw_look ho) (by decide) (by decide)
      clear ho
      obtain ⟨v5, ev, hf⟩ := m_bndE hf
      clear ev
      obtain ⟨v6, ev, hf⟩ := m_bndE hf
      clear ev
      obtain ⟨v7, ev, hf⟩ := m_bndE hf
      clear ev
      obtain ⟨v8, ev, hf⟩ := m_bndE hf
      clear ev
      obtain ⟨I9, ev, hf⟩ := m_bndE hf
      replace hR := frs_I hR (by decide) ev
      clear ev
      exact frs_t hR (hself21 _ _ _ _ _ _ hf) (fun _ h => h) (fun _ h => h)
theorem fw_readMoveNumber_21   (n : Nat) : ∀ (y0 : Int32) (y1 : Int32) (y2 : Int32) (I : Nat → Int32) (A : Nat → Nat → Int32) (o : Int32 × MS), f_readMoveNumber_21  n y0 y1 y2 I A = some o → FrS [37] [] I A o.2.1 o.2.2 := by
  induction n with
  | zero => intro y0 y1 y2 I A o hf; cases hf
  | succ n ih => intro y0 y1 y2 I A o hf; exact fw_readMoveNumber_21s  ih hf
theorem fw_readMoveNumber_0 {o : Int32 × MS} {I : Nat → Int32} {A : Nat → Nat → Int32}  (hf : f_readMoveNumber_0 I A = some o) : FrS [37] [] I A o.2.1 o.2.2 := by
  have hR : FrS [37] [] I A I A := frs_0
  unfold f_readMoveNumber_0 at hf
  obtain ⟨or1, ho, hf⟩ := m_clE hf
  replace hR := frs_t hR (fw_look ho) (by decide) (by decide)
  clear ho
  obtain ⟨or2, ho, hf⟩ := m_clE hf
  replace hR := frs_t hR (fw_isDigit ho) (by decide) (by decide)
  clear ho
  rcases m_ifE hf with ⟨-, hf⟩ | ⟨-, hf⟩
  ·
    cases hf
    exact hR
  ·
    exact frs_t hR (fw_readMoveNumber_21  mFuel _ _ _ _ _ _ hf) (fun _ h => h) (fun _ h => h)
theorem fw_readMoveNumber {o : Int32 × MS}  {I : Nat → Int32} {A : Nat → Nat → Int32} (hf : f_readMoveNumber  I A = some o) : FrS [37] [] I A o.2.1 o.2.2 := fw_readMoveNumber_0  hf
theorem fw_readMove_81 {o : Int32 × MS} {self25 : Int32 → Int32 → Int32 → (Nat → Int32) → (Nat → Nat → Int32) → Option (Int32 × MS)} {x1 : Int32} {x2 : Int32} {x3 : Int32} {I : Nat → Int32} {A : Nat → Nat → Int32} (hself25 : ∀ (z0 : Int32) (z1 : Int32) (z2 : Int32) (I : Nat → Int32) (A : Nat → Nat → Int32) (o : Int32 × MS), self25 z0 z1 z2 I A = some o → FrS [25, 26, 27, 28, 29, 36, 37] [7, 8, 9, 10, 11, 12, 14, 24, 30, 31, 35] I A o.2.1 o.2.2) (hf : f_readMove_81 self25 x1 x2 x3 I A = some o) : FrS [25, 26, 27, 28, 29, 36, 37] [7, 8, 9, 10, 11, 12, 14, 24, 30, 31, 35] I A o.2.1 o.2.2 := by
  have hR : FrS [25, 26, 27, 28, 29, 36, 37] [7, 8, 9, 10, 11, 12, 14, 24, 30, 31, 35] I A I A := frs_0
  unfold f_readMove_81 at hf
  obtain ⟨v1, ev, hf⟩ := m_bndE hf
  clear ev
  obtain ⟨I2, ev, hf⟩ := m_bndE hf
  replace hR := frs_I hR (by decide) ev
  clear ev
  exact frs_t hR (hself25 _ _ _ _ _ _ hf) (fun _ h => h) (fun _ h => h)
theorem fw_readMove_122 {o : Int32 × MS} {x3 : Int32} {t0 : Int32} {I : Nat → Int32} {A : Nat → Nat → Int32}  (hf : f_readMove_122 x3 t0 I A = some o) : FrS [25, 26, 27, 28, 29, 36, 37] [7, 8, 9, 10, 11, 12, 14, 24, 30, 31, 35] I A o.2.1 o.2.2 := by
  have hR : FrS [25, 26, 27, 28, 29, 36, 37] [7, 8, 9, 10, 11, 12, 14, 24, 30, 31, 35] I A I A := frs_0
  unfold f_readMove_122 at hf
  obtain ⟨or1, ho, hf⟩ := m_clE hf
  replace hR := frs_t hR (fw_fault ho) (by decide) (by decide)
  clear ho
  obtain ⟨v2, ev, hf⟩ := m_bndE hf
  clear ev
  cases hf
  exact hR
theorem fw_readMove_25s {o : Int32 × MS} {self25 : Int32 → Int32 → Int32 → (Nat → Int32) → (Nat → Nat → Int32) → Option (Int32 × MS)} {x1 : Int32} {x2 : Int32} {x3 : Int32} {I : Nat → Int32} {A : Nat → Nat → Int32} (hself25 : ∀ (z0 : Int32) (z1 : Int32) (z2 : Int32) (I : Nat → Int32) (A : Nat → Nat → Int32) (o : Int32 × MS), self25 z0 z1 z2 I A = some o → FrS [25, 26, 27, 28, 29, 36, 37] [7, 8, 9, 10, 11, 12, 14, 24, 30, 31, 35] I A o.2.1 o.2.2) (hf : f_readMove_25s self25 x1 x2 x3 I A = some o) : FrS [25, 26, 27, 28, 29, 36, 37] [7, 8, 9, 10, 11, 12, 14, 24, 30, 31, 35] I A o.2.1 o.2.2 := by
  have hR : FrS [25, 26, 27, 28, 29, 36, 37] [7, 8, 9, 10, 11, 12, 14, 24, 30, 31, 35] I A I A := frs_0
  unfold f_readMove_25s at hf
  obtain ⟨or1, ho, hf⟩ := m_clE hf
  replace hR := frs_t hR (fw_look ho) (by decide) (by decide)
  clear ho
  obtain ⟨or2, ho, hf⟩ := m_clE hf
  replace hR := frs_t hR (fw_isLetter ho) (by decide) (by decide)
  clear ho
  rcases m_ifE hf with ⟨-, hf⟩ | ⟨-, hf⟩
  ·
    obtain ⟨or3, ho, hf⟩ := m_clE hf
    replace hR := frs_t hR (fw_look ho) (by decide) (by decide)
    clear ho
    obtain ⟨or4, ho, hf⟩ := m_clE hf
    replace hR := frs_t hR (fw_isDigit ho) (by decide) (by decide)
    clear ho
    rcases m_ifE hf with ⟨-, hf⟩ | ⟨-, hf⟩
    ·
      obtain ⟨or5, ho, hf⟩ := m_clE hf
      replace hR := frs_t hR (fw_look ho) (by decide) (by decide)
      clear ho
      rcases m_ifE hf with ⟨-, hf⟩ | ⟨-, hf⟩
      ·
        exact frs_t hR (fw_readMove_81 hself25 hf) (fun _ h => h) (fun _ h => h)
      ·
        obtain ⟨or6, ho, hf⟩ := m_clE hf
        replace hR := frs_t hR (fw_look ho) (by decide) (by decide)
        clear ho
        rcases m_ifE hf with ⟨-, hf⟩ | ⟨-, hf⟩
        ·
          exact frs_t hR (fw_readMove_81 hself25 hf) (fun _ h => h) (fun _ h => h)
        ·
          obtain ⟨or7, ho, hf⟩ := m_clE hf
          replace hR := frs_t hR (fw_look ho) (by decide) (by decide)
          clear ho
          rcases m_ifE hf with ⟨-, hf⟩ | ⟨-, hf⟩
          ·
            exact frs_t hR (fw_readMove_81 hself25 hf) (fun _ h => h) (fun _ h => h)
          ·
            obtain ⟨or8, ho, hf⟩ := m_clE hf
            replace hR := frs_t hR (fw_look ho) (by decide) (by decide)
            clear ho
            rcases m_ifE hf with ⟨-, hf⟩ | ⟨-, hf⟩
            ·
              exact frs_t hR (fw_readMove_81 hself25 hf) (fun _ h => h) (fun _ h => h)
            ·
              obtain ⟨or9, ho, hf⟩ := m_clE hf
              replace hR := frs_t hR (fw_understood ho) (by decide) (by decide)
              clear ho
              rcases m_ifE hf with ⟨-, hf⟩ | ⟨-, hf⟩
              ·
                obtain ⟨or10, ho, hf⟩ := m_clE hf
                replace hR := frs_t hR (fw_childWith ho) (by decide) (by decide)
                clear ho
                rcases m_ifE hf with ⟨-, hf⟩ | ⟨-, hf⟩
                ·
                  obtain ⟨-, hf⟩ := m_chkE hf
                  obtain ⟨v11, ev, hf⟩ := m_bndE hf
                  clear ev
                  rcases m_ifE hf with ⟨-, hf⟩ | ⟨-, hf⟩
                  ·
                    obtain ⟨or13, ho, hf⟩ := m_clE hf
                    replace hR := frs_t hR (fw_fault ho) (by decide) (by decide)
                    clear ho
                    obtain ⟨v14, ev, hf⟩ := m_bndE hf
                    clear ev
                    cases hf
                    exact hR
                  ·
                    obtain ⟨or12, ho, hf⟩ := m_clE hf
                    replace hR := frs_t hR (fw_append ho) (by decide) (by decide)
                    clear ho
                    cases hf
                    exact hR
                ·
                  obtain ⟨or15, ho, hf⟩ := m_clE hf
                  replace hR := frs_t hR (fw_fault ho) (by decide) (by decide)
                  clear ho
                  obtain ⟨v16, ev, hf⟩ := m_bndE hf
                  clear ev
                  cases hf
                  exact hR
              ·
                rcases m_ifE hf with ⟨-, hf⟩ | ⟨-, hf⟩
                ·
                  exact frs_t hR (fw_readMove_122  hf) (fun _ h => h) (fun _ h => h)
                ·
                  exact frs_t hR (fw_readMove_122  hf) (fun _ h => h) (fun _ h => h)
    ·
      exact frs_t hR (fw_readMove_81 hself25 hf) (fun _ h => h) (fun _ h => h)
  ·
    exact frs_t hR (fw_readMove_81 hself25 hf) (fun _ h => h) (fun _ h => h)
theorem fw_readMove_25   (n : Nat) : ∀ (y0 : Int32) (y1 : Int32) (y2 : Int32) (I : Nat → Int32) (A : Nat → Nat → Int32) (o : Int32 × MS), f_readMove_25  n y0 y1 y2 I A = some o → FrS [25, 26, 27, 28, 29, 36, 37] [7, 8, 9, 10, 11, 12, 14, 24, 30, 31, 35] I A o.2.1 o.2.2 := by
  induction n with
  | zero => intro y0 y1 y2 I A o hf; cases hf
  | succ n ih => intro y0 y1 y2 I A o hf; exact fw_readMove_25s  ih hf
theorem fw_readMove_0 {o : Int32 × MS} {x1 : Int32} {x2 : Int32} {I : Nat → Int32} {A : Nat → Nat → Int32}  (hf : f_readMove_0 x1 x2 I A = some o) : FrS [25, 26, 27, 28, 29, 36, 37] [7, 8, 9, 10, 11, 12, 14, 24, 30, 31, 35] I A o.2.1 o.2.2 := by
  have hR : FrS [25, 26, 27, 28, 29, 36, 37] [7, 8, 9, 10, 11, 12, 14, 24, 30, 31, 35] I A I A := frs_0
  unfold f_readMove_0 at hf
  obtain ⟨or1, ho, hf⟩ := m_clE hf
  replace hR := frs_t hR (fw_look ho) (by decide) (by decide)
  clear ho
  obtain ⟨or2, ho, hf⟩ := m_clE hf
  replace hR := frs_t hR (fw_isLetter ho) (by decide) (by decide)
  clear ho
  rcases m_ifE hf with ⟨-, hf⟩ | ⟨-, hf⟩
  ·
    obtain ⟨or3, ho, hf⟩ := m_clE hf
    replace hR := frs_t hR (fw_fault ho) (by decide) (by decide)
    clear ho
    obtain ⟨v4, ev, hf⟩ := m_bndE hf
    clear ev
    cases hf
    exact hR
  ·
    exact frs_t hR (fw_readMove_25  mFuel _ _ _ _ _ _ hf) (fun _ h => h) (fun _ h => h)
theorem fw_readMove {o : Int32 × MS} {x1 : Int32} {x2 : Int32} {I : Nat → Int32} {A : Nat → Nat → Int32} (hf : f_readMove x1 x2 I A = some o) : FrS [25, 26, 27, 28, 29, 36, 37] [7, 8, 9, 10, 11, 12, 14, 24, 30, 31, 35] I A o.2.1 o.2.2 := fw_readMove_0  hf
theorem fw_readLine_224 {o : Int32 × MS} {rec : Int32 → Int32 → Int32 → (Nat → Int32) → (Nat → Nat → Int32) → Option (Int32 × MS)} {self3 : Int32 → Int32 → Int32 → Int32 → (Nat → Int32) → (Nat → Nat → Int32) → Option (Int32 × MS)} {x1 : Int32} {x2 : Int32} {x3 : Int32} {x4 : Int32} {x5 : Int32} {I : Nat → Int32} {A : Nat → Nat → Int32} (hrec : ∀ (z0 : Int32) (z1 : Int32) (z2 : Int32) (I : Nat → Int32) (A : Nat → Nat → Int32) (o : Int32 × MS), rec z0 z1 z2 I A = some o → FrS [25, 26, 27, 28, 29, 33, 36, 37] [7, 8, 9, 10, 11, 12, 13, 14, 15, 24, 30, 31, 32, 34, 35] I A o.2.1 o.2.2) (hself3 : ∀ (z0 : Int32) (z1 : Int32) (z2 : Int32) (z3 : Int32) (I : Nat → Int32) (A : Nat → Nat → Int32) (o : Int32 × MS), self3 z0 z1 z2 z3 I A = some o → FrS [25, 26, 27, 28, 29, 33, 36, 37] [7, 8, 9, 10, 11, 12, 13, 14, 15, 24, 30, 31, 32, 34, 35] I A o.2.1 o.2.2) (hf : f_readLine_224 rec self3 x1 x2 x3 x4 x5 I A = some o) : FrS [25, 26, 27, 28, 29, 33, 36, 37] [7, 8, 9, 10, 11, 12, 13, 14, 15, 24, 30, 31, 32, 34, 35] I A o.2.1 o.2.2 := by
  have hR : FrS [25, 26, 27, 28, 29, 33, 36, 37] [7, 8, 9, 10, 11, 12, 13, 14, 15, 24, 30, 31, 32, 34, 35] I A I A := frs_0
  unfold f_readLine_224 at hf
  rcases m_ifE hf with ⟨-, hf⟩ | ⟨-, hf⟩
  ·
    exact frs_t hR (hself3 _ _ _ _ _ _ _ hf) (fun _ h => h) (fun _ h => h)
  ·
    cases hf
    exact hR
theorem fw_readLine_219 {o : Int32 × MS} {rec : Int32 → Int32 → Int32 → (Nat → Int32) → (Nat → Nat → Int32) → Option (Int32 × MS)} {self3 : Int32 → Int32 → Int32 → Int32 → (Nat → Int32) → (Nat → Nat → Int32) → Option (Int32 × MS)} {self113 : Int32 → Int32 → Int32 → Int32 → Int32 → Int32 → (Nat → Int32) → (Nat → Nat → Int32) → Option (Int32 × MS)} {x1 : Int32} {x2 : Int32} {x3 : Int32} {x4 : Int32} {x7 : Int32} {t0 : Int32} {I : Nat → Int32} {A : Nat → Nat → Int32} (hrec : ∀ (z0 : Int32) (z1 : Int32) (z2 : Int32) (I : Nat → Int32) (A : Nat → Nat → Int32) (o : Int32 × MS), rec z0 z1 z2 I A = some o → FrS [25, 26, 27, 28, 29, 33, 36, 37] [7, 8, 9, 10, 11, 12, 13, 14, 15, 24, 30, 31, 32, 34, 35] I A o.2.1 o.2.2) (hself3 : ∀ (z0 : Int32) (z1 : Int32) (z2 : Int32) (z3 : Int32) (I : Nat → Int32) (A : Nat → Nat → Int32) (o : Int32 × MS), self3 z0 z1 z2 z3 I A = some o → FrS [25, 26, 27, 28, 29, 33, 36, 37] [7, 8, 9, 10, 11, 12, 13, 14, 15, 24, 30, 31, 32, 34, 35] I A o.2.1 o.2.2) (hself113 : ∀ (z0 : Int32) (z1 : Int32) (z2 : Int32) (z3 : Int32) (z4 : Int32) (z5 : Int32) (I : Nat → Int32) (A : Nat → Nat → Int32) (o : Int32 × MS), self113 z0 z1 z2 z3 z4 z5 I A = some o → FrS [25, 26, 27, 28, 29, 33, 36, 37] [7, 8, 9, 10, 11, 12, 13, 14, 15, 24, 30, 31, 32, 34, 35] I A o.2.1 o.2.2) (hf : f_readLine_219 rec self3 self113 x1 x2 x3 x4 x7 t0 I A = some o) : FrS [25, 26, 27, 28, 29, 33, 36, 37] [7, 8, 9, 10, 11, 12, 13, 14, 15, 24, 30, 31, 32, 34, 35] I A o.2.1 o.2.2 := by
  have hR : FrS [25, 26, 27, 28, 29, 33, 36, 37] [7, 8, 9, 10, 11, 12, 13, 14, 15, 24, 30, 31, 32, 34, 35] I A I A := frs_0
  unfold f_readLine_219 at hf
  exact frs_t hR (hself113 _ _ _ _ _ _ _ _ _ hf) (fun _ h => h) (fun _ h => h)
theorem fw_readLine_199 {o : Int32 × MS} {rec : Int32 → Int32 → Int32 → (Nat → Int32) → (Nat → Nat → Int32) → Option (Int32 × MS)} {self3 : Int32 → Int32 → Int32 → Int32 → (Nat → Int32) → (Nat → Nat → Int32) → Option (Int32 × MS)} {self113 : Int32 → Int32 → Int32 → Int32 → Int32 → Int32 → (Nat → Int32) → (Nat → Nat → Int32) → Option (Int32 × MS)} {x1 : Int32} {x2 : Int32} {x3 : Int32} {x4 : Int32} {x5 : Int32} {x7 : Int32} {t0 : Int32} {I : Nat → Int32} {A : Nat → Nat → Int32} (hrec : ∀ (z0 : Int32) (z1 : Int32) (z2 : Int32) (I : Nat → Int32) (A : Nat → Nat → Int32) (o : Int32 × MS), rec z0 z1 z2 I A = some o → FrS [25, 26, 27, 28, 29, 33, 36, 37] [7, 8, 9, 10, 11, 12, 13, 14, 15, 24, 30, 31, 32, 34, 35] I A o.2.1 o.2.2) (hself3 : ∀ (z0 : Int32) (z1 : Int32) (z2 : Int32) (z3 : Int32) (I : Nat → Int32) (A : Nat → Nat → Int32) (o : Int32 × MS), self3 z0 z1 z2 z3 I A = some o → FrS [25, 26, 27, 28, 29, 33, 36, 37] [7, 8, 9, 10, 11, 12, 13, 14, 15, 24, 30, 31, 32, 34, 35] I A o.2.1 o.2.2) (hself113 : ∀ (z0 : Int32) (z1 : Int32) (z2 : Int32) (z3 : Int32) (z4 : Int32) (z5 : Int32) (I : Nat → Int32) (A : Nat → Nat → Int32) (o : Int32 × MS), self113 z0 z1 z2 z3 z4 z5 I A = some o → FrS [25, 26, 27, 28, 29, 33, 36, 37] [7, 8, 9, 10, 11, 12, 13, 14, 15, 24, 30, 31, 32, 34, 35] I A o.2.1 o.2.2) (hf : f_readLine_199 rec self3 self113 x1 x2 x3 x4 x5 x7 t0 I A = some o) : FrS [25, 26, 27, 28, 29, 33, 36, 37] [7, 8, 9, 10, 11, 12, 13, 14, 15, 24, 30, 31, 32, 34, 35] I A o.2.1 o.2.2 := by
  have hR : FrS [25, 26, 27, 28, 29, 33, 36, 37] [7, 8, 9, 10, 11, 12, 13, 14, 15, 24, 30, 31, 32, 34, 35] I A I A := frs_0
  unfold f_readLine_199 at hf
  obtain ⟨I1, ev, hf⟩ := m_bndE hf
  replace hR := frs_I hR (by decide) ev
  clear ev
  rcases m_ifE hf with ⟨-, hf⟩ | ⟨-, hf⟩
  ·
    obtain ⟨or2, ho, hf⟩ := m_clE hf
    replace hR := frs_t hR (fw_readRemarks ho) (by decide) (by decide)
    clear ho
    exact frs_t hR (fw_readLine_219 hrec hself3 hself113 hf) (fun _ h => h) (fun _ h => h)
  ·
    exact frs_t hR (fw_readLine_219 hrec hself3 hself113 hf) (fun _ h => h) (fun _ h => h)
theorem fw_readLine_178 {o : Int32 × MS} {rec : Int32 → Int32 → Int32 → (Nat → Int32) → (Nat → Nat → Int32) → Option (Int32 × MS)} {self3 : Int32 → Int32 → Int32 → Int32 → (Nat → Int32) → (Nat → Nat → Int32) → Option (Int32 × MS)} {self113 : Int32 → Int32 → Int32 → Int32 → Int32 → Int32 → (Nat → Int32) → (Nat → Nat → Int32) → Option (Int32 × MS)} {x1 : Int32} {x2 : Int32} {x3 : Int32} {x4 : Int32} {x7 : Int32} {t0 : Int32} {I : Nat → Int32} {A : Nat → Nat → Int32} (hrec : ∀ (z0 : Int32) (z1 : Int32) (z2 : Int32) (I : Nat → Int32) (A : Nat → Nat → Int32) (o : Int32 × MS), rec z0 z1 z2 I A = some o → FrS [25, 26, 27, 28, 29, 33, 36, 37] [7, 8, 9, 10, 11, 12, 13, 14, 15, 24, 30, 31, 32, 34, 35] I A o.2.1 o.2.2) (hself3 : ∀ (z0 : Int32) (z1 : Int32) (z2 : Int32) (z3 : Int32) (I : Nat → Int32) (A : Nat → Nat → Int32) (o : Int32 × MS), self3 z0 z1 z2 z3 I A = some o → FrS [25, 26, 27, 28, 29, 33, 36, 37] [7, 8, 9, 10, 11, 12, 13, 14, 15, 24, 30, 31, 32, 34, 35] I A o.2.1 o.2.2) (hself113 : ∀ (z0 : Int32) (z1 : Int32) (z2 : Int32) (z3 : Int32) (z4 : Int32) (z5 : Int32) (I : Nat → Int32) (A : Nat → Nat → Int32) (o : Int32 × MS), self113 z0 z1 z2 z3 z4 z5 I A = some o → FrS [25, 26, 27, 28, 29, 33, 36, 37] [7, 8, 9, 10, 11, 12, 13, 14, 15, 24, 30, 31, 32, 34, 35] I A o.2.1 o.2.2) (hf : f_readLine_178 rec self3 self113 x1 x2 x3 x4 x7 t0 I A = some o) : FrS [25, 26, 27, 28, 29, 33, 36, 37] [7, 8, 9, 10, 11, 12, 13, 14, 15, 24, 30, 31, 32, 34, 35] I A o.2.1 o.2.2 := by
  have hR : FrS [25, 26, 27, 28, 29, 33, 36, 37] [7, 8, 9, 10, 11, 12, 13, 14, 15, 24, 30, 31, 32, 34, 35] I A I A := frs_0
  unfold f_readLine_178 at hf
  rcases m_ifE hf with ⟨-, hf⟩ | ⟨-, hf⟩
  ·
    obtain ⟨v1, ev, hf⟩ := m_bndE hf
    clear ev
    exact frs_t hR (fw_readLine_199 hrec hself3 hself113 hf) (fun _ h => h) (fun _ h => h)
  ·
    exact frs_t hR (fw_readLine_199 hrec hself3 hself113 hf) (fun _ h => h) (fun _ h => h)
theorem fw_readLine_146 {o : Int32 × MS} {rec : Int32 → Int32 → Int32 → (Nat → Int32) → (Nat → Nat → Int32) → Option (Int32 × MS)} {self3 : Int32 → Int32 → Int32 → Int32 → (Nat → Int32) → (Nat → Nat → Int32) → Option (Int32 × MS)} {self113 : Int32 → Int32 → Int32 → Int32 → Int32 → Int32 → (Nat → Int32) → (Nat → Nat → Int32) → Option (Int32 × MS)} {x1 : Int32} {x2 : Int32} {x3 : Int32} {x4 : Int32} {x7 : Int32} {t0 : Int32} {I : Nat → Int32} {A : Nat → Nat → Int32} (hrec : ∀ (z0 : Int32) (z1 : Int32) (z2 : Int32) (I : Nat → Int32) (A : Nat → Nat → Int32) (o : Int32 × MS), rec z0 z1 z2 I A = some o → FrS [25, 26, 27, 28, 29, 33, 36, 37] [7, 8, 9, 10, 11, 12, 13, 14, 15, 24, 30, 31, 32, 34, 35] I A o.2.1 o.2.2) (hself3 : ∀ (z0 : Int32) (z1 : Int32) (z2 : Int32) (z3 : Int32) (I : Nat → Int32) (A : Nat → Nat → Int32) (o : Int32 × MS), self3 z0 z1 z2 z3 I A = some o → FrS [25, 26, 27, 28, 29, 33, 36, 37] [7, 8, 9, 10, 11, 12, 13, 14, 15, 24, 30, 31, 32, 34, 35] I A o.2.1 o.2.2) (hself113 : ∀ (z0 : Int32) (z1 : Int32) (z2 : Int32) (z3 : Int32) (z4 : Int32) (z5 : Int32) (I : Nat → Int32) (A : Nat → Nat → Int32) (o : Int32 × MS), self113 z0 z1 z2 z3 z4 z5 I A = some o → FrS [25, 26, 27, 28, 29, 33, 36, 37] [7, 8, 9, 10, 11, 12, 13, 14, 15, 24, 30, 31, 32, 34, 35] I A o.2.1 o.2.2) (hf : f_readLine_146 rec self3 self113 x1 x2 x3 x4 x7 t0 I A = some o) : FrS [25, 26, 27, 28, 29, 33, 36, 37] [7, 8, 9, 10, 11, 12, 13, 14, 15, 24, 30, 31, 32, 34, 35] I A o.2.1 o.2.2 := by
  have hR : FrS [25, 26, 27, 28, 29, 33, 36, 37] [7, 8, 9, 10, 11, 12, 13, 14, 15, 24, 30, 31, 32, 34, 35] I A I A := frs_0
  unfold f_readLine_146 at hf
  obtain ⟨v1, ev, hf⟩ := m_bndE hf
  clear ev
  obtain ⟨I2, ev, hf⟩ := m_bndE hf
  replace hR := frs_I hR (by decide) ev
  clear ev
  rcases m_ifE hf with ⟨-, hf⟩ | ⟨-, hf⟩
  ·
    obtain ⟨v3, ev, hf⟩ := m_bndE hf
    clear ev
    obtain ⟨or4, ho, hf⟩ := m_clE hf
    replace hR := frs_t hR (hrec _ _ _ _ _ _ ho) (by decide) (by decide)
    clear ho
    exact frs_t hR (fw_readLine_178 hrec hself3 hself113 hf) (fun _ h => h) (fun _ h => h)
  ·
    exact frs_t hR (fw_readLine_178 hrec hself3 hself113 hf) (fun _ h => h) (fun _ h => h)
theorem fw_readLine_113s {o : Int32 × MS} {rec : Int32 → Int32 → Int32 → (Nat → Int32) → (Nat → Nat → Int32) → Option (Int32 × MS)} {self3 : Int32 → Int32 → Int32 → Int32 → (Nat → Int32) → (Nat → Nat → Int32) → Option (Int32 × MS)} {self113 : Int32 → Int32 → Int32 → Int32 → Int32 → Int32 → (Nat → Int32) → (Nat → Nat → Int32) → Option (Int32 × MS)} {x1 : Int32} {x2 : Int32} {x3 : Int32} {x4 : Int32} {x5 : Int32} {x7 : Int32} {I : Nat → Int32} {A : Nat → Nat → Int32} (hrec : ∀ (z0 : Int32) (z1 : Int32) (z2 : Int32) (I : Nat → Int32) (A : Nat → Nat → Int32) (o : Int32 × MS), rec z0 z1 z2 I A = some o → FrS [25, 26, 27, 28, 29, 33, 36, 37] [7, 8, 9, 10, 11, 12, 13, 14, 15, 24, 30, 31, 32, 34, 35] I A o.2.1 o.2.2) (hself3 : ∀ (z0 : Int32) (z1 : Int32) (z2 : Int32) (z3 : Int32) (I : Nat → Int32) (A : Nat → Nat → Int32) (o : Int32 × MS), self3 z0 z1 z2 z3 I A = some o → FrS [25, 26, 27, 28, 29, 33, 36, 37] [7, 8, 9, 10, 11, 12, 13, 14, 15, 24, 30, 31, 32, 34, 35] I A o.2.1 o.2.2) (hself113 : ∀ (z0 : Int32) (z1 : Int32) (z2 : Int32) (z3 : Int32) (z4 : Int32) (z5 : Int32) (I : Nat → Int32) (A : Nat → Nat → Int32) (o : Int32 × MS), self113 z0 z1 z2 z3 z4 z5 I A = some o → FrS [25, 26, 27, 28, 29, 33, 36, 37] [7, 8, 9, 10, 11, 12, 13, 14, 15, 24, 30, 31, 32, 34, 35] I A o.2.1 o.2.2) (hf : f_readLine_113s rec self3 self113 x1 x2 x3 x4 x5 x7 I A = some o) : FrS [25, 26, 27, 28, 29, 33, 36, 37] [7, 8, 9, 10, 11, 12, 13, 14, 15, 24, 30, 31, 32, 34, 35] I A o.2.1 o.2.2 := by
  have hR : FrS [25, 26, 27, 28, 29, 33, 36, 37] [7, 8, 9, 10, 11, 12, 13, 14, 15, 24, 30, 31, 32, 34, 35] I A I A := frs_0
  unfold f_readLine_113s at hf
  rcases m_ifE hf with ⟨-, hf⟩ | ⟨-, hf⟩
  ·
    obtain ⟨or1, ho, hf⟩ := m_clE hf
    replace hR := frs_t hR (fw_look ho) (by decide) (by decide)
    clear ho
    rcases m_ifE hf with ⟨-, hf⟩ | ⟨-, hf⟩
    ·
      rcases m_ifE hf with ⟨-, hf⟩ | ⟨-, hf⟩
      ·
        obtain ⟨or2, ho, hf⟩ := m_clE hf
        replace hR := frs_t hR (fw_fault ho) (by decide) (by decide)
        clear ho
        exact frs_t hR (fw_readLine_146 hrec hself3 hself113 hf) (fun _ h => h) (fun _ h => h)
      ·
        exact frs_t hR (fw_readLine_146 hrec hself3 hself113 hf) (fun _ h => h) (fun _ h => h)
    ·
      exact frs_t hR (fw_readLine_224 hrec hself3 hf) (fun _ h => h) (fun _ h => h)
  ·
    exact frs_t hR (fw_readLine_224 hrec hself3 hf) (fun _ h => h) (fun _ h => h)
theorem fw_readLine_113 {rec : Int32 → Int32 → Int32 → (Nat → Int32) → (Nat → Nat → Int32) → Option (Int32 × MS)} {self3 : Int32 → Int32 → Int32 → Int32 → (Nat → Int32) → (Nat → Nat → Int32) → Option (Int32 × MS)} (hrec : ∀ (z0 : Int32) (z1 : Int32) (z2 : Int32) (I : Nat → Int32) (A : Nat → Nat → Int32) (o : Int32 × MS), rec z0 z1 z2 I A = some o → FrS [25, 26, 27, 28, 29, 33, 36, 37] [7, 8, 9, 10, 11, 12, 13, 14, 15, 24, 30, 31, 32, 34, 35] I A o.2.1 o.2.2) (hself3 : ∀ (z0 : Int32) (z1 : Int32) (z2 : Int32) (z3 : Int32) (I : Nat → Int32) (A : Nat → Nat → Int32) (o : Int32 × MS), self3 z0 z1 z2 z3 I A = some o → FrS [25, 26, 27, 28, 29, 33, 36, 37] [7, 8, 9, 10, 11, 12, 13, 14, 15, 24, 30, 31, 32, 34, 35] I A o.2.1 o.2.2) (n : Nat) : ∀ (y0 : Int32) (y1 : Int32) (y2 : Int32) (y3 : Int32) (y4 : Int32) (y5 : Int32) (I : Nat → Int32) (A : Nat → Nat → Int32) (o : Int32 × MS), f_readLine_113 rec self3 n y0 y1 y2 y3 y4 y5 I A = some o → FrS [25, 26, 27, 28, 29, 33, 36, 37] [7, 8, 9, 10, 11, 12, 13, 14, 15, 24, 30, 31, 32, 34, 35] I A o.2.1 o.2.2 := by
  induction n with
  | zero => intro y0 y1 y2 y3 y4 y5 I A o hf; cases hf
  | succ n ih => intro y0 y1 y2 y3 y4 y5 I A o hf; exact fw_readLine_113s hrec hself3 ih hf
theorem fw_readLine_111 {o : Int32 × MS} {rec : Int32 → Int32 → Int32 → (Nat → Int32) → (Nat → Nat → Int32) → Option (Int32 × MS)} {self3 : Int32 → Int32 → Int32 → Int32 → (Nat → Int32) → (Nat → Nat → Int32) → Option (Int32 × MS)} {x1 : Int32} {x2 : Int32} {x3 : Int32} {x4 : Int32} {x7 : Int32} {t0 : Int32} {I : Nat → Int32} {A : Nat → Nat → Int32} (hrec : ∀ (z0 : Int32) (z1 : Int32) (z2 : Int32) (I : Nat → Int32) (A : Nat → Nat → Int32) (o : Int32 × MS), rec z0 z1 z2 I A = some o → FrS [25, 26, 27, 28, 29, 33, 36, 37] [7, 8, 9, 10, 11, 12, 13, 14, 15, 24, 30, 31, 32, 34, 35] I A o.2.1 o.2.2) (hself3 : ∀ (z0 : Int32) (z1 : Int32) (z2 : Int32) (z3 : Int32) (I : Nat → Int32) (A : Nat → Nat → Int32) (o : Int32 × MS), self3 z0 z1 z2 z3 I A = some o → FrS [25, 26, 27, 28, 29, 33, 36, 37] [7, 8, 9, 10, 11, 12, 13, 14, 15, 24, 30, 31, 32, 34, 35] I A o.2.1 o.2.2) (hf : f_readLine_111 rec self3 x1 x2 x3 x4 x7 t0 I A = some o) : FrS [25, 26, 27, 28, 29, 33, 36, 37] [7, 8, 9, 10, 11, 12, 13, 14, 15, 24, 30, 31, 32, 34, 35] I A o.2.1 o.2.2 := by
  have hR : FrS [25, 26, 27, 28, 29, 33, 36, 37] [7, 8, 9, 10, 11, 12, 13, 14, 15, 24, 30, 31, 32, 34, 35] I A I A := frs_0
  unfold f_readLine_111 at hf
  exact frs_t hR (fw_readLine_113 hrec hself3 mFuel _ _ _ _ _ _ _ _ _ hf) (fun _ h => h) (fun _ h => h)
theorem fw_readLine_38 {o : Int32 × MS} {rec : Int32 → Int32 → Int32 → (Nat → Int32) → (Nat → Nat → Int32) → Option (Int32 × MS)} {self3 : Int32 → Int32 → Int32 → Int32 → (Nat → Int32) → (Nat → Nat → Int32) → Option (Int32 × MS)} {x1 : Int32} {x2 : Int32} {x3 : Int32} {x4 : Int32} {I : Nat → Int32} {A : Nat → Nat → Int32} (hrec : ∀ (z0 : Int32) (z1 : Int32) (z2 : Int32) (I : Nat → Int32) (A : Nat → Nat → Int32) (o : Int32 × MS), rec z0 z1 z2 I A = some o → FrS [25, 26, 27, 28, 29, 33, 36, 37] [7, 8, 9, 10, 11, 12, 13, 14, 15, 24, 30, 31, 32, 34, 35] I A o.2.1 o.2.2) (hself3 : ∀ (z0 : Int32) (z1 : Int32) (z2 : Int32) (z3 : Int32) (I : Nat → Int32) (A : Nat → Nat → Int32) (o : Int32 × MS), self3 z0 z1 z2 z3 I A = some o → FrS [25, 26, 27, 28, 29, 33, 36, 37] [7, 8, 9, 10, 11, 12, 13, 14, 15, 24, 30, 31, 32, 34, 35] I A o.2.1 o.2.2) (hf : f_readLine_38 rec self3 x1 x2 x3 x4 I A = some o) : FrS [25, 26, 27, 28, 29, 33, 36, 37] [7, 8, 9, 10, 11, 12, 13, 14, 15, 24, 30, 31, 32, 34, 35] I A o.2.1 o.2.2 := by
  have hR : FrS [25, 26, 27, 28, 29, 33, 36, 37] [7, 8, 9, 10, 11, 12, 13, 14, 15, 24, 30, 31, 32, 34, 35] I A I A := frs_0
  unfold f_readLine_38 at hf
  obtain ⟨or1, ho, hf⟩ := m_clE hf
  replace hR := frs_t hR (fw_place ho) (by decide) (by decide)
  clear ho
  obtain ⟨or2, ho, hf⟩ := m_clE hf
  replace hR := frs_t hR (fw_readMoveNumber ho) (by decide) (by decide)
  clear ho
  rcases m_ifE hf with ⟨-, hf⟩ | ⟨-, hf⟩
  ·
    obtain ⟨or3, ho, hf⟩ := m_clE hf
    replace hR := frs_t hR (fw_readMove ho) (by decide) (by decide)
    clear ho
    rcases m_ifE hf with ⟨-, hf⟩ | ⟨-, hf⟩
    ·
      obtain ⟨or4, ho, hf⟩ := m_clE hf
      replace hR := frs_t hR (fw_readMarks ho) (by decide) (by decide)
      clear ho
      rcases m_ifE hf with ⟨-, hf⟩ | ⟨-, hf⟩
      ·
        obtain ⟨or5, ho, hf⟩ := m_clE hf
        replace hR := frs_t hR (fw_readRemarks ho) (by decide) (by decide)
        clear ho
        exact frs_t hR (fw_readLine_111 hrec hself3 hf) (fun _ h => h) (fun _ h => h)
      ·
        exact frs_t hR (fw_readLine_111 hrec hself3 hf) (fun _ h => h) (fun _ h => h)
    ·
      obtain ⟨v6, ev, hf⟩ := m_bndE hf
      clear ev
      cases hf
      exact hR
  ·
    cases hf
    exact hR
theorem fw_readLine_36 {o : Int32 × MS} {rec : Int32 → Int32 → Int32 → (Nat → Int32) → (Nat → Nat → Int32) → Option (Int32 × MS)} {I : Nat → Int32} {A : Nat → Nat → Int32} (hrec : ∀ (z0 : Int32) (z1 : Int32) (z2 : Int32) (I : Nat → Int32) (A : Nat → Nat → Int32) (o : Int32 × MS), rec z0 z1 z2 I A = some o → FrS [25, 26, 27, 28, 29, 33, 36, 37] [7, 8, 9, 10, 11, 12, 13, 14, 15, 24, 30, 31, 32, 34, 35] I A o.2.1 o.2.2) (hf : f_readLine_36 rec I A = some o) : FrS [25, 26, 27, 28, 29, 33, 36, 37] [7, 8, 9, 10, 11, 12, 13, 14, 15, 24, 30, 31, 32, 34, 35] I A o.2.1 o.2.2 := by
  have hR : FrS [25, 26, 27, 28, 29, 33, 36, 37] [7, 8, 9, 10, 11, 12, 13, 14, 15, 24, 30, 31, 32, 34, 35] I A I A := frs_0
  unfold f_readLine_36 at hf
  cases hf
  exact hR
theorem fw_readLine_3s {o : Int32 × MS} {rec : Int32 → Int32 → Int32 → (Nat → Int32) → (Nat → Nat → Int32) → Option (Int32 × MS)} {self3 : Int32 → Int32 → Int32 → Int32 → (Nat → Int32) → (Nat → Nat → Int32) → Option (Int32 × MS)} {x1 : Int32} {x2 : Int32} {x3 : Int32} {x4 : Int32} {I : Nat → Int32} {A : Nat → Nat → Int32} (hrec : ∀ (z0 : Int32) (z1 : Int32) (z2 : Int32) (I : Nat → Int32) (A : Nat → Nat → Int32) (o : Int32 × MS), rec z0 z1 z2 I A = some o → FrS [25, 26, 27, 28, 29, 33, 36, 37] [7, 8, 9, 10, 11, 12, 13, 14, 15, 24, 30, 31, 32, 34, 35] I A o.2.1 o.2.2) (hself3 : ∀ (z0 : Int32) (z1 : Int32) (z2 : Int32) (z3 : Int32) (I : Nat → Int32) (A : Nat → Nat → Int32) (o : Int32 × MS), self3 z0 z1 z2 z3 I A = some o → FrS [25, 26, 27, 28, 29, 33, 36, 37] [7, 8, 9, 10, 11, 12, 13, 14, 15, 24, 30, 31, 32, 34, 35] I A o.2.1 o.2.2) (hf : f_readLine_3s rec self3 x1 x2 x3 x4 I A = some o) : FrS [25, 26, 27, 28, 29, 33, 36, 37] [7, 8, 9, 10, 11, 12, 13, 14, 15, 24, 30, 31, 32, 34, 35] I A o.2.1 o.2.2 := by
  have hR : FrS [25, 26, 27, 28, 29, 33, 36, 37] [7, 8, 9, 10, 11, 12, 13, 14, 15, 24, 30, 31, 32, 34, 35] I A I A := frs_0
  unfold f_readLine_3s at hf
  obtain ⟨or1, ho, hf⟩ := m_clE hf
  replace hR := frs_t hR (fw_blanks ho) (by decide) (by decide)
  clear ho
  rcases m_ifE hf with ⟨-, hf⟩ | ⟨-, hf⟩
  ·
    obtain ⟨or3, ho, hf⟩ := m_clE hf
    replace hR := frs_t hR (fw_resultHere ho) (by decide) (by decide)
    clear ho
    rcases m_ifE hf with ⟨-, hf⟩ | ⟨-, hf⟩
    ·
      exact frs_t hR (fw_readLine_38 hrec hself3 hf) (fun _ h => h) (fun _ h => h)
    ·
      exact frs_t hR (fw_readLine_36 hrec hf) (fun _ h => h) (fun _ h => h)
  ·
    obtain ⟨or2, ho, hf⟩ := m_clE hf
    replace hR := frs_t hR (fw_look ho) (by decide) (by decide)
    clear ho
    rcases m_ifE hf with ⟨-, hf⟩ | ⟨-, hf⟩
    ·
      rcases m_ifE hf with ⟨-, hf⟩ | ⟨-, hf⟩
      ·
        exact frs_t hR (fw_readLine_38 hrec hself3 hf) (fun _ h => h) (fun _ h => h)
      ·
        exact frs_t hR (fw_readLine_36 hrec hf) (fun _ h => h) (fun _ h => h)
    ·
      exact frs_t hR (fw_readLine_38 hrec hself3 hf) (fun _ h => h) (fun _ h => h)
theorem fw_readLine_3 {rec : Int32 → Int32 → Int32 → (Nat → Int32) → (Nat → Nat → Int32) → Option (Int32 × MS)} (hrec : ∀ (z0 : Int32) (z1 : Int32) (z2 : Int32) (I : Nat → Int32) (A : Nat → Nat → Int32) (o : Int32 × MS), rec z0 z1 z2 I A = some o → FrS [25, 26, 27, 28, 29, 33, 36, 37] [7, 8, 9, 10, 11, 12, 13, 14, 15, 24, 30, 31, 32, 34, 35] I A o.2.1 o.2.2) (n : Nat) : ∀ (y0 : Int32) (y1 : Int32) (y2 : Int32) (y3 : Int32) (I : Nat → Int32) (A : Nat → Nat → Int32) (o : Int32 × MS), f_readLine_3 rec n y0 y1 y2 y3 I A = some o → FrS [25, 26, 27, 28, 29, 33, 36, 37] [7, 8, 9, 10, 11, 12, 13, 14, 15, 24, 30, 31, 32, 34, 35] I A o.2.1 o.2.2 := by
  induction n with
  | zero => intro y0 y1 y2 y3 I A o hf; cases hf
  | succ n ih => intro y0 y1 y2 y3 I A o hf; exact fw_readLine_3s hrec ih hf
theorem fw_readLine_0 {o : Int32 × MS} {rec : Int32 → Int32 → Int32 → (Nat → Int32) → (Nat → Nat → Int32) → Option (Int32 × MS)} {x1 : Int32} {x2 : Int32} {x3 : Int32} {I : Nat → Int32} {A : Nat → Nat → Int32} (hrec : ∀ (z0 : Int32) (z1 : Int32) (z2 : Int32) (I : Nat → Int32) (A : Nat → Nat → Int32) (o : Int32 × MS), rec z0 z1 z2 I A = some o → FrS [25, 26, 27, 28, 29, 33, 36, 37] [7, 8, 9, 10, 11, 12, 13, 14, 15, 24, 30, 31, 32, 34, 35] I A o.2.1 o.2.2) (hf : f_readLine_0 rec x1 x2 x3 I A = some o) : FrS [25, 26, 27, 28, 29, 33, 36, 37] [7, 8, 9, 10, 11, 12, 13, 14, 15, 24, 30, 31, 32, 34, 35] I A o.2.1 o.2.2 := by
  have hR : FrS [25, 26, 27, 28, 29, 33, 36, 37] [7, 8, 9, 10, 11, 12, 13, 14, 15, 24, 30, 31, 32, 34, 35] I A I A := frs_0
  unfold f_readLine_0 at hf
  exact frs_t hR (fw_readLine_3 hrec mFuel _ _ _ _ _ _ _ hf) (fun _ h => h) (fun _ h => h)
theorem fwr_readLine (n : Nat) : ∀ (x1 : Int32) (x2 : Int32) (x3 : Int32) (I : Nat → Int32) (A : Nat → Nat → Int32) (o : Int32 × MS), fr_readLine n x1 x2 x3 I A = some o → FrS [25, 26, 27, 28, 29, 33, 36, 37] [7, 8, 9, 10, 11, 12, 13, 14, 15, 24, 30, 31, 32, 34, 35] I A o.2.1 o.2.2 := by
  induction n with
  | zero => intro x1 x2 x3 I A o hf; cases hf
  | succ n ih => intro x1 x2 x3 I A o hf; exact fw_readLine_0 ih hf
theorem fw_readLine {o : Int32 × MS} {x1 : Int32} {x2 : Int32} {x3 : Int32} {I : Nat → Int32} {A : Nat → Nat → Int32} (hf : f_readLine x1 x2 x3 I A = some o) : FrS [25, 26, 27, 28, 29, 33, 36, 37] [7, 8, 9, 10, 11, 12, 13, 14, 15, 24, 30, 31, 32, 34, 35] I A o.2.1 o.2.2 := fwr_readLine 8 _ _ _ I A o hf
theorem fw_resultSize_19 {o : Int32 × MS} {t0 : Int32} {I : Nat → Int32} {A : Nat → Nat → Int32}  (hf : f_resultSize_19 t0 I A = some o) : FrS [] [] I A o.2.1 o.2.2 := by
  have hR : FrS [] [] I A I A := frs_0
  unfold f_resultSize_19 at hf
  cases hf
  exact hR
theorem fw_resultSize_0 {o : Int32 × MS} {x0 : Int32} {I : Nat → Int32} {A : Nat → Nat → Int32}  (hf : f_resultSize_0 x0 I A = some o) : FrS [] [] I A o.2.1 o.2.2 := by
  have hR : FrS [] [] I A I A := frs_0
  unfold f_resultSize_0 at hf
  rcases m_ifE hf with ⟨-, hf⟩ | ⟨-, hf⟩
  ·
    exact frs_t hR (fw_resultSize_19  hf) (fun _ h => h) (fun _ h => h)
  ·
    rcases m_ifE hf with ⟨-, hf⟩ | ⟨-, hf⟩
    ·
      exact frs_t hR (fw_resultSize_19  hf) (fun _ h => h) (fun _ h => h)
    ·
      exact frs_t hR (fw_resultSize_19  hf) (fun _ h => h) (fun _ h => h)
theorem fw_resultSize {o : Int32 × MS} {x0 : Int32} {I : Nat → Int32} {A : Nat → Nat → Int32} (hf : f_resultSize x0 I A = some o) : FrS [] [] I A o.2.1 o.2.2 := fw_resultSize_0  hf
theorem fw_resultSign_52 {o : Int32 × MS} {t0 : Int32} {I : Nat → Int32} {A : Nat → Nat → Int32}  (hf : f_resultSign_52 t0 I A = some o) : FrS [] [] I A o.2.1 o.2.2 := by
  have hR : FrS [] [] I A I A := frs_0
  unfold f_resultSign_52 at hf
  obtain ⟨-, hf⟩ := m_chkE hf
  cases hf
  exact hR
theorem fw_resultSign_74 {o : Int32 × MS} {t0 : Int32} {I : Nat → Int32} {A : Nat → Nat → Int32}  (hf : f_resultSign_74 t0 I A = some o) : FrS [] [] I A o.2.1 o.2.2 := by
  have hR : FrS [] [] I A I A := frs_0
  unfold f_resultSign_74 at hf
  obtain ⟨-, hf⟩ := m_chkE hf
  cases hf
  exact hR
theorem fw_resultSign_116 {o : Int32 × MS} {t0 : Int32} {I : Nat → Int32} {A : Nat → Nat → Int32}  (hf : f_resultSign_116 t0 I A = some o) : FrS [] [] I A o.2.1 o.2.2 := by
  have hR : FrS [] [] I A I A := frs_0
  unfold f_resultSign_116 at hf
  obtain ⟨-, hf⟩ := m_chkE hf
  cases hf
  exact hR
theorem fw_resultSign_85 {o : Int32 × MS} {I : Nat → Int32} {A : Nat → Nat → Int32}  (hf : f_resultSign_85 I A = some o) : FrS [] [] I A o.2.1 o.2.2 := by
  have hR : FrS [] [] I A I A := frs_0
  unfold f_resultSign_85 at hf
  exact frs_t hR (fw_resultSign_116  hf) (fun _ h => h) (fun _ h => h)
theorem fw_resultSign_109 {o : Int32 × MS} {I : Nat → Int32} {A : Nat → Nat → Int32}  (hf : f_resultSign_109 I A = some o) : FrS [] [] I A o.2.1 o.2.2 := by
  have hR : FrS [] [] I A I A := frs_0
  unfold f_resultSign_109 at hf
  exact frs_t hR (fw_resultSign_116  hf) (fun _ h => h) (fun _ h => h)
theorem fw_resultSign_0 {o : Int32 × MS} {x0 : Int32} {x1 : Int32} {I : Nat → Int32} {A : Nat → Nat → Int32}  (hf : f_resultSign_0 x0 x1 I A = some o) : FrS [] [] I A o.2.1 o.2.2 := by
  have hR : FrS [] [] I A I A := frs_0
  unfold f_resultSign_0 at hf
  rcases m_ifE hf with ⟨-, hf⟩ | ⟨-, hf⟩
  ·
    obtain ⟨-, hf⟩ := m_chkE hf
    cases hf
    exact hR
  ·
    rcases m_ifE hf with ⟨-, hf⟩ | ⟨-, hf⟩
    ·
      rcases m_ifE hf with ⟨-, hf⟩ | ⟨-, hf⟩
      ·
        exact frs_t hR (fw_resultSign_52  hf) (fun _ h => h) (fun _ h => h)
      ·
        rcases m_ifE hf with ⟨-, hf⟩ | ⟨-, hf⟩
        ·
          exact frs_t hR (fw_resultSign_52  hf) (fun _ h => h) (fun _ h => h)
        ·
          exact frs_t hR (fw_resultSign_52  hf) (fun _ h => h) (fun _ h => h)
    ·
      rcases m_ifE hf with ⟨-, hf⟩ | ⟨-, hf⟩
      ·
        rcases m_ifE hf with ⟨-, hf⟩ | ⟨-, hf⟩
        ·
          exact frs_t hR (fw_resultSign_74  hf) (fun _ h => h) (fun _ h => h)
        ·
          rcases m_ifE hf with ⟨-, hf⟩ | ⟨-, hf⟩
          ·
            exact frs_t hR (fw_resultSign_74  hf) (fun _ h => h) (fun _ h => h)
          ·
            exact frs_t hR (fw_resultSign_74  hf) (fun _ h => h) (fun _ h => h)
      ·
        rcases m_ifE hf with ⟨-, hf⟩ | ⟨-, hf⟩
        ·
          exact frs_t hR (fw_resultSign_85  hf) (fun _ h => h) (fun _ h => h)
        ·
          rcases m_ifE hf with ⟨-, hf⟩ | ⟨-, hf⟩
          ·
            exact frs_t hR (fw_resultSign_85  hf) (fun _ h => h) (fun _ h => h)
          ·
            rcases m_ifE hf with ⟨-, hf⟩ | ⟨-, hf⟩
            ·
              exact frs_t hR (fw_resultSign_116  hf) (fun _ h => h) (fun _ h => h)
            ·
              rcases m_ifE hf with ⟨-, hf⟩ | ⟨-, hf⟩
              ·
                exact frs_t hR (fw_resultSign_109  hf) (fun _ h => h) (fun _ h => h)
              ·
                rcases m_ifE hf with ⟨-, hf⟩ | ⟨-, hf⟩
                ·
                  exact frs_t hR (fw_resultSign_109  hf) (fun _ h => h) (fun _ h => h)
                ·
                  exact frs_t hR (fw_resultSign_116  hf) (fun _ h => h) (fun _ h => h)
theorem fw_resultSign {o : Int32 × MS} {x0 : Int32} {x1 : Int32} {I : Nat → Int32} {A : Nat → Nat → Int32} (hf : f_resultSign x0 x1 I A = some o) : FrS [] [] I A o.2.1 o.2.2 := fw_resultSign_0  hf
theorem fw_isResultValue_82 {o : Int32 × MS} {x4 : Int32} {I : Nat → Int32} {A : Nat → Nat → Int32}  (hf : f_isResultValue_82 x4 I A = some o) : FrS [] [] I A o.2.1 o.2.2 := by
  have hR : FrS [] [] I A I A := frs_0
  unfold f_isResultValue_82 at hf
  obtain ⟨-, hf⟩ := m_chkE hf
  cases hf
  exact hR
theorem fw_isResultValue_74 {o : Int32 × MS} {self28 : Int32 → Int32 → Int32 → Int32 → Int32 → (Nat → Int32) → (Nat → Nat → Int32) → Option (Int32 × MS)} {x1 : Int32} {x2 : Int32} {x3 : Int32} {x5 : Int32} {t0 : Int32} {I : Nat → Int32} {A : Nat → Nat → Int32} (hself28 : ∀ (z0 : Int32) (z1 : Int32) (z2 : Int32) (z3 : Int32) (z4 : Int32) (I : Nat → Int32) (A : Nat → Nat → Int32) (o : Int32 × MS), self28 z0 z1 z2 z3 z4 I A = some o → FrS [] [] I A o.2.1 o.2.2) (hf : f_isResultValue_74 self28 x1 x2 x3 x5 t0 I A = some o) : FrS [] [] I A o.2.1 o.2.2 := by
  have hR : FrS [] [] I A I A := frs_0
  unfold f_isResultValue_74 at hf
  obtain ⟨v1, ev, hf⟩ := m_bndE hf
  clear ev
  exact frs_t hR (hself28 _ _ _ _ _ _ _ _ hf) (fun _ h => h) (fun _ h => h)
theorem fw_isResultValue_28s {o : Int32 × MS} {self28 : Int32 → Int32 → Int32 → Int32 → Int32 → (Nat → Int32) → (Nat → Nat → Int32) → Option (Int32 × MS)} {x1 : Int32} {x2 : Int32} {x3 : Int32} {x4 : Int32} {x5 : Int32} {I : Nat → Int32} {A : Nat → Nat → Int32} (hself28 : ∀ (z0 : Int32) (z1 : Int32) (z2 : Int32) (z3 : Int32) (z4 : Int32) (I : Nat → Int32) (A : Nat → Nat → Int32) (o : Int32 × MS), self28 z0 z1 z2 z3 z4 I A = some o → FrS [] [] I A o.2.1 o.2.2) (hf : f_isResultValue_28s self28 x1 x2 x3 x4 x5 I A = some o) : FrS [] [] I A o.2.1 o.2.2 := by
  have hR : FrS [] [] I A I A := frs_0
  unfold f_isResultValue_28s at hf
  obtain ⟨or1, ho, hf⟩ := m_clE hf
  replace hR := frs_t hR (fw_resultSize ho) (by decide) (by decide)
  clear ho
  rcases m_ifE hf with ⟨-, hf⟩ | ⟨-, hf⟩
  ·
    exact frs_t hR (fw_isResultValue_82  hf) (fun _ h => h) (fun _ h => h)
  ·
    rcases m_ifE hf with ⟨-, hf⟩ | ⟨-, hf⟩
    ·
      exact frs_t hR (fw_isResultValue_82  hf) (fun _ h => h) (fun _ h => h)
    ·
      obtain ⟨v2, ev, hf⟩ := m_bndE hf
      clear ev
      obtain ⟨v3, ev, hf⟩ := m_bndE hf
      clear ev
      obtain ⟨v4, ev, hf⟩ := m_bndE hf
      clear ev
      obtain ⟨v5, ev, hf⟩ := m_bndE hf
      clear ev
      obtain ⟨-, hf⟩ := m_chkE hf
      obtain ⟨v6, ev, hf⟩ := m_bndE hf
      clear ev
      obtain ⟨or7, ho, hf⟩ := m_clE hf
      replace hR := frs_t hR (fw_resultSign ho) (by decide) (by decide)
      clear ho
      rcases m_ifE hf with ⟨-, hf⟩ | ⟨-, hf⟩
      ·
        exact frs_t hR (fw_isResultValue_74 hself28 hf) (fun _ h => h) (fun _ h => h)
      ·
        exact frs_t hR (fw_isResultValue_74 hself28 hf) (fun _ h => h) (fun _ h => h)
theorem fw_isResultValue_28   (n : Nat) : ∀ (y0 : Int32) (y1 : Int32) (y2 : Int32) (y3 : Int32) (y4 : Int32) (I : Nat → Int32) (A : Nat → Nat → Int32) (o : Int32 × MS), f_isResultValue_28  n y0 y1 y2 y3 y4 I A = some o → FrS [] [] I A o.2.1 o.2.2 := by
  induction n with
  | zero => intro y0 y1 y2 y3 y4 I A o hf; cases hf
  | succ n ih => intro y0 y1 y2 y3 y4 I A o hf; exact fw_isResultValue_28s  ih hf
theorem fw_isResultValue_23 {o : Int32 × MS} {x1 : Int32} {x2 : Int32} {x3 : Int32} {t0 : Int32} {I : Nat → Int32} {A : Nat → Nat → Int32}  (hf : f_isResultValue_23 x1 x2 x3 t0 I A = some o) : FrS [] [] I A o.2.1 o.2.2 := by
  have hR : FrS [] [] I A I A := frs_0
  unfold f_isResultValue_23 at hf
  exact frs_t hR (fw_isResultValue_28  mFuel _ _ _ _ _ _ _ _ hf) (fun _ h => h) (fun _ h => h)
theorem fw_isResultValue_0 {o : Int32 × MS} {x1 : Int32} {x2 : Int32} {x3 : Int32} {I : Nat → Int32} {A : Nat → Nat → Int32}  (hf : f_isResultValue_0 x1 x2 x3 I A = some o) : FrS [] [] I A o.2.1 o.2.2 := by
  have hR : FrS [] [] I A I A := frs_0
  unfold f_isResultValue_0 at hf
  obtain ⟨v1, ev, hf⟩ := m_bndE hf
  clear ev
  obtain ⟨v2, ev, hf⟩ := m_bndE hf
  clear ev
  obtain ⟨-, hf⟩ := m_chkE hf
  obtain ⟨v3, ev, hf⟩ := m_bndE hf
  clear ev
  obtain ⟨or4, ho, hf⟩ := m_clE hf
  replace hR := frs_t hR (fw_resultSize ho) (by decide) (by decide)
  clear ho
  rcases m_ifE hf with ⟨-, hf⟩ | ⟨-, hf⟩
  ·
    exact frs_t hR (fw_isResultValue_23  hf) (fun _ h => h) (fun _ h => h)
  ·
    exact frs_t hR (fw_isResultValue_23  hf) (fun _ h => h) (fun _ h => h)
theorem fw_isResultValue {o : Int32 × MS} {x1 : Int32} {x2 : Int32} {x3 : Int32} {I : Nat → Int32} {A : Nat → Nat → Int32} (hf : f_isResultValue x1 x2 x3 I A = some o) : FrS [] [] I A o.2.1 o.2.2 := fw_isResultValue_0  hf
theorem fw_readGame_185 {o : Int32 × MS} {t0 : Int32} {I : Nat → Int32} {A : Nat → Nat → Int32}  (hf : f_readGame_185 t0 I A = some o) : FrS [25, 26, 27, 28, 29, 33, 36, 37, 38, 39] [7, 8, 9, 10, 11, 12, 13, 14, 15, 16, 17, 18, 19, 20, 21, 22, 23, 24, 30, 31, 32, 34, 35] I A o.2.1 o.2.2 := by
  have hR : FrS [25, 26, 27, 28, 29, 33, 36, 37, 38, 39] [7, 8, 9, 10, 11, 12, 13, 14, 15, 16, 17, 18, 19, 20, 21, 22, 23, 24, 30, 31, 32, 34, 35] I A I A := frs_0
  unfold f_readGame_185 at hf
  cases hf
  exact hR
theorem fw_readGame_154 {o : Int32 × MS} {t0 : Int32} {t1 : Int32} {I : Nat → Int32} {A : Nat → Nat → Int32}  (hf : f_readGame_154 t0 t1 I A = some o) : FrS [25, 26, 27, 28, 29, 33, 36, 37, 38, 39] [7, 8, 9, 10, 11, 12, 13, 14, 15, 16, 17, 18, 19, 20, 21, 22, 23, 24, 30, 31, 32, 34, 35] I A o.2.1 o.2.2 := by
  have hR : FrS [25, 26, 27, 28, 29, 33, 36, 37, 38, 39] [7, 8, 9, 10, 11, 12, 13, 14, 15, 16, 17, 18, 19, 20, 21, 22, 23, 24, 30, 31, 32, 34, 35] I A I A := frs_0
  unfold f_readGame_154 at hf
  obtain ⟨v1, ev, hf⟩ := m_bndE hf
  clear ev
  obtain ⟨I2, ev, hf⟩ := m_bndE hf
  replace hR := frs_I hR (by decide) ev
  clear ev
  obtain ⟨or3, ho, hf⟩ := m_clE hf
  replace hR := frs_t hR (fw_blanks ho) (by decide) (by decide)
  clear ho
  rcases m_ifE hf with ⟨-, hf⟩ | ⟨-, hf⟩
  ·
    exact frs_t hR (fw_readGame_185  hf) (fun _ h => h) (fun _ h => h)
  ·
    obtain ⟨or4, ho, hf⟩ := m_clE hf
    replace hR := frs_t hR (fw_fault ho) (by decide) (by decide)
    clear ho
    exact frs_t hR (fw_readGame_185  hf) (fun _ h => h) (fun _ h => h)
theorem fw_readGame_117 {o : Int32 × MS} {self74 : Int32 → Int32 → Int32 → (Nat → Int32) → (Nat → Nat → Int32) → Option (Int32 × MS)} {x1 : Int32} {x3 : Int32} {x4 : Int32} {I : Nat → Int32} {A : Nat → Nat → Int32} (hself74 : ∀ (z0 : Int32) (z1 : Int32) (z2 : Int32) (I : Nat → Int32) (A : Nat → Nat → Int32) (o : Int32 × MS), self74 z0 z1 z2 I A = some o → FrS [25, 26, 27, 28, 29, 33, 36, 37, 38, 39] [7, 8, 9, 10, 11, 12, 13, 14, 15, 16, 17, 18, 19, 20, 21, 22, 23, 24, 30, 31, 32, 34, 35] I A o.2.1 o.2.2) (hf : f_readGame_117 self74 x1 x3 x4 I A = some o) : FrS [25, 26, 27, 28, 29, 33, 36, 37, 38, 39] [7, 8, 9, 10, 11, 12, 13, 14, 15, 16, 17, 18, 19, 20, 21, 22, 23, 24, 30, 31, 32, 34, 35] I A o.2.1 o.2.2 := by
  have hR : FrS [25, 26, 27, 28, 29, 33, 36, 37, 38, 39] [7, 8, 9, 10, 11, 12, 13, 14, 15, 16, 17, 18, 19, 20, 21, 22, 23, 24, 30, 31, 32, 34, 35] I A I A := frs_0
  unfold f_readGame_117 at hf
  obtain ⟨v1, ev, hf⟩ := m_bndE hf
  clear ev
  exact frs_t hR (hself74 _ _ _ _ _ _ hf) (fun _ h => h) (fun _ h => h)
theorem fw_readGame_74s {o : Int32 × MS} {self74 : Int32 → Int32 → Int32 → (Nat → Int32) → (Nat → Nat → Int32) → Option (Int32 × MS)} {x1 : Int32} {x3 : Int32} {x4 : Int32} {I : Nat → Int32} {A : Nat → Nat → Int32} (hself74 : ∀ (z0 : Int32) (z1 : Int32) (z2 : Int32) (I : Nat → Int32) (A : Nat → Nat → Int32) (o : Int32 × MS), self74 z0 z1 z2 I A = some o → FrS [25, 26, 27, 28, 29, 33, 36, 37, 38, 39] [7, 8, 9, 10, 11, 12, 13, 14, 15, 16, 17, 18, 19, 20, 21, 22, 23, 24, 30, 31, 32, 34, 35] I A o.2.1 o.2.2) (hf : f_readGame_74s self74 x1 x3 x4 I A = some o) : FrS [25, 26, 27, 28, 29, 33, 36, 37, 38, 39] [7, 8, 9, 10, 11, 12, 13, 14, 15, 16, 17, 18, 19, 20, 21, 22, 23, 24, 30, 31, 32, 34, 35] I A o.2.1 o.2.2 := by
  have hR : FrS [25, 26, 27, 28, 29, 33, 36, 37, 38, 39] [7, 8, 9, 10, 11, 12, 13, 14, 15, 16, 17, 18, 19, 20, 21, 22, 23, 24, 30, 31, 32, 34, 35] I A I A := frs_0
  unfold f_readGame_74s at hf
  obtain ⟨-, hf⟩ := m_chkE hf
  obtain ⟨v1, ev, hf⟩ := m_bndE hf
  clear ev
  rcases m_ifE hf with ⟨-, hf⟩ | ⟨-, hf⟩
  ·
    obtain ⟨-, hf⟩ := m_chkE hf
    obtain ⟨A2, ev, hf⟩ := m_bndE hf
    replace hR := frs_A hR (by decide) ev
    clear ev
    rcases m_ifE hf with ⟨-, hf⟩ | ⟨-, hf⟩
    ·
      exact frs_t hR (fw_readGame_154  hf) (fun _ h => h) (fun _ h => h)
    ·
      rcases m_ifE hf with ⟨-, hf⟩ | ⟨-, hf⟩
      ·
        exact frs_t hR (fw_readGame_154  hf) (fun _ h => h) (fun _ h => h)
      ·
        exact frs_t hR (fw_readGame_154  hf) (fun _ h => h) (fun _ h => h)
  ·
    obtain ⟨or3, ho, hf⟩ := m_clE hf
    replace hR := frs_t hR (fw_isTag ho) (by decide) (by decide)
    clear ho
    rcases m_ifE hf with ⟨-, hf⟩ | ⟨-, hf⟩
    ·
      exact frs_t hR (fw_readGame_117 hself74 hf) (fun _ h => h) (fun _ h => h)
    ·
      obtain ⟨or4, ho, hf⟩ := m_clE hf
      replace hR := frs_t hR (fw_isResultValue ho) (by decide) (by decide)
      clear ho
      rcases m_ifE hf with ⟨-, hf⟩ | ⟨-, hf⟩
      ·
        obtain ⟨or5, ho, hf⟩ := m_clE hf
        replace hR := frs_t hR (fw_fault ho) (by decide) (by decide)
        clear ho
        cases hf
        exact hR
      ·
        exact frs_t hR (fw_readGame_117 hself74 hf) (fun _ h => h) (fun _ h => h)
theorem fw_readGame_74   (n : Nat) : ∀ (y0 : Int32) (y1 : Int32) (y2 : Int32) (I : Nat → Int32) (A : Nat → Nat → Int32) (o : Int32 × MS), f_readGame_74  n y0 y1 y2 I A = some o → FrS [25, 26, 27, 28, 29, 33, 36, 37, 38, 39] [7, 8, 9, 10, 11, 12, 13, 14, 15, 16, 17, 18, 19, 20, 21, 22, 23, 24, 30, 31, 32, 34, 35] I A o.2.1 o.2.2 := by
  induction n with
  | zero => intro y0 y1 y2 I A o hf; cases hf
  | succ n ih => intro y0 y1 y2 I A o hf; exact fw_readGame_74s  ih hf
theorem fw_readGame_59 {o : Int32 × MS} {x1 : Int32} {t0 : Int32} {I : Nat → Int32} {A : Nat → Nat → Int32}  (hf : f_readGame_59 x1 t0 I A = some o) : FrS [25, 26, 27, 28, 29, 33, 36, 37, 38, 39] [7, 8, 9, 10, 11, 12, 13, 14, 15, 16, 17, 18, 19, 20, 21, 22, 23, 24, 30, 31, 32, 34, 35] I A o.2.1 o.2.2 := by
  have hR : FrS [25, 26, 27, 28, 29, 33, 36, 37, 38, 39] [7, 8, 9, 10, 11, 12, 13, 14, 15, 16, 17, 18, 19, 20, 21, 22, 23, 24, 30, 31, 32, 34, 35] I A I A := frs_0
  unfold f_readGame_59 at hf
  rcases m_ifE hf with ⟨-, hf⟩ | ⟨-, hf⟩
  ·
    obtain ⟨or1, ho, hf⟩ := m_clE hf
    replace hR := frs_t hR (fw_resultHere ho) (by decide) (by decide)
    clear ho
    exact frs_t hR (fw_readGame_74  mFuel _ _ _ _ _ _ hf) (fun _ h => h) (fun _ h => h)
  ·
    cases hf
    exact hR
theorem fw_readGame_9s {o : Int32 × MS} {self9 : Int32 → (Nat → Int32) → (Nat → Nat → Int32) → Option (Int32 × MS)} {x1 : Int32} {I : Nat → Int32} {A : Nat → Nat → Int32} (hself9 : ∀ (z0 : Int32) (I : Nat → Int32) (A : Nat → Nat → Int32) (o : Int32 × MS), self9 z0 I A = some o → FrS [25, 26, 27, 28, 29, 33, 36, 37, 38, 39] [7, 8, 9, 10, 11, 12, 13, 14, 15, 16, 17, 18, 19, 20, 21, 22, 23, 24, 30, 31, 32, 34, 35] I A o.2.1 o.2.2) (hf : f_readGame_9s self9 x1 I A = some o) : FrS [25, 26, 27, 28, 29, 33, 36, 37, 38, 39] [7, 8, 9, 10, 11, 12, 13, 14, 15, 16, 17, 18, 19, 20, 21, 22, 23, 24, 30, 31, 32, 34, 35] I A o.2.1 o.2.2 := by
  have hR : FrS [25, 26, 27, 28, 29, 33, 36, 37, 38, 39] [7, 8, 9, 10, 11, 12, 13, 14, 15, 16, 17, 18, 19, 20, 21, 22, 23, 24, 30, 31, 32, 34, 35] I A I A := frs_0
  unfold f_readGame_9s at hf
  obtain ⟨or1, ho, hf⟩ := m_clE hf
  replace hR := frs_t hR (fw_look ho) (by decide) (by decide)
  clear ho
  rcases m_ifE hf with ⟨-, hf⟩ | ⟨-, hf⟩
  ·
    obtain ⟨or4, ho, hf⟩ := m_clE hf
    replace hR := frs_t hR (fw_readTag ho) (by decide) (by decide)
    clear ho
    rcases m_ifE hf with ⟨-, hf⟩ | ⟨-, hf⟩
    ·
      obtain ⟨or5, ho, hf⟩ := m_clE hf
      replace hR := frs_t hR (fw_blanks ho) (by decide) (by decide)
      clear ho
      exact frs_t hR (hself9 _ _ _ _ hf) (fun _ h => h) (fun _ h => h)
    ·
      cases hf
      exact hR
  ·
    obtain ⟨or2, ho, hf⟩ := m_clE hf
    replace hR := frs_t hR (fw_readRemarks ho) (by decide) (by decide)
    clear ho
    rcases m_ifE hf with ⟨-, hf⟩ | ⟨-, hf⟩
    ·
      obtain ⟨or3, ho, hf⟩ := m_clE hf
      replace hR := frs_t hR (fw_readLine ho) (by decide) (by decide)
      clear ho
      exact frs_t hR (fw_readGame_59  hf) (fun _ h => h) (fun _ h => h)
    ·
      exact frs_t hR (fw_readGame_59  hf) (fun _ h => h) (fun _ h => h)
theorem fw_readGame_9   (n : Nat) : ∀ (y0 : Int32) (I : Nat → Int32) (A : Nat → Nat → Int32) (o : Int32 × MS), f_readGame_9  n y0 I A = some o → FrS [25, 26, 27, 28, 29, 33, 36, 37, 38, 39] [7, 8, 9, 10, 11, 12, 13, 14, 15, 16, 17, 18, 19, 20, 21, 22, 23, 24, 30, 31, 32, 34, 35] I A o.2.1 o.2.2 := by
  induction n with
  | zero => intro y0 I A o hf; cases hf
  | succ n ih => intro y0 I A o hf; exact fw_readGame_9s  ih hf
theorem fw_readGame_0 {o : Int32 × MS} {x1 : Int32} {I : Nat → Int32} {A : Nat → Nat → Int32}  (hf : f_readGame_0 x1 I A = some o) : FrS [25, 26, 27, 28, 29, 33, 36, 37, 38, 39] [7, 8, 9, 10, 11, 12, 13, 14, 15, 16, 17, 18, 19, 20, 21, 22, 23, 24, 30, 31, 32, 34, 35] I A o.2.1 o.2.2 := by
  have hR : FrS [25, 26, 27, 28, 29, 33, 36, 37, 38, 39] [7, 8, 9, 10, 11, 12, 13, 14, 15, 16, 17, 18, 19, 20, 21, 22, 23, 24, 30, 31, 32, 34, 35] I A I A := frs_0
  unfold f_readGame_0 at hf
  obtain ⟨I1, ev, hf⟩ := m_bndE hf
  replace hR := frs_I hR (by decide) ev
  clear ev
  obtain ⟨or2, ho, hf⟩ := m_clE hf
  replace hR := frs_t hR (fw_blanks ho) (by decide) (by decide)
  clear ho
  exact frs_t hR (fw_readGame_9  mFuel _ _ _ _ hf) (fun _ h => h) (fun _ h => h)
theorem fw_readGame {o : Int32 × MS} {x1 : Int32} {I : Nat → Int32} {A : Nat → Nat → Int32} (hf : f_readGame x1 I A = some o) : FrS [25, 26, 27, 28, 29, 33, 36, 37, 38, 39] [7, 8, 9, 10, 11, 12, 13, 14, 15, 16, 17, 18, 19, 20, 21, 22, 23, 24, 30, 31, 32, 34, 35] I A o.2.1 o.2.2 := fw_readGame_0  hf
theorem fw_read_47 {o : Int32 × MS} {x2 : Int32} {I : Nat → Int32} {A : Nat → Nat → Int32}  (hf : f_read_47 x2 I A = some o) : FrS [0, 1, 5, 6, 25, 26, 27, 28, 29, 33, 36, 37, 38, 39] [7, 8, 9, 10, 11, 12, 13, 14, 15, 16, 17, 18, 19, 20, 21, 22, 23, 24, 30, 31, 32, 34, 35] I A o.2.1 o.2.2 := by
  have hR : FrS [0, 1, 5, 6, 25, 26, 27, 28, 29, 33, 36, 37, 38, 39] [7, 8, 9, 10, 11, 12, 13, 14, 15, 16, 17, 18, 19, 20, 21, 22, 23, 24, 30, 31, 32, 34, 35] I A I A := frs_0
  unfold f_read_47 at hf
  obtain ⟨or1, ho, hf⟩ := m_clE hf
  replace hR := frs_t hR (fw_place ho) (by decide) (by decide)
  clear ho
  cases hf
  exact hR
theorem fw_read_0 {o : Int32 × MS} {I : Nat → Int32} {A : Nat → Nat → Int32}  (hf : f_read_0 I A = some o) : FrS [0, 1, 5, 6, 25, 26, 27, 28, 29, 33, 36, 37, 38, 39] [7, 8, 9, 10, 11, 12, 13, 14, 15, 16, 17, 18, 19, 20, 21, 22, 23, 24, 30, 31, 32, 34, 35] I A o.2.1 o.2.2 := by
  have hR : FrS [0, 1, 5, 6, 25, 26, 27, 28, 29, 33, 36, 37, 38, 39] [7, 8, 9, 10, 11, 12, 13, 14, 15, 16, 17, 18, 19, 20, 21, 22, 23, 24, 30, 31, 32, 34, 35] I A I A := frs_0
  unfold f_read_0 at hf
  obtain ⟨I1, ev, hf⟩ := m_bndE hf
  replace hR := frs_I hR (by decide) ev
  clear ev
  obtain ⟨v2, ev, hf⟩ := m_bndE hf
  clear ev
  obtain ⟨or3, ho, hf⟩ := m_clE hf
  replace hR := frs_t hR (fw_clearGame ho) (by decide) (by decide)
  clear ho
  obtain ⟨or4, ho, hf⟩ := m_clE hf
  replace hR := frs_t hR (fw_usual ho) (by decide) (by decide)
  clear ho
  obtain ⟨or5, ho, hf⟩ := m_clE hf
  replace hR := frs_t hR (fw_readGame ho) (by decide) (by decide)
  clear ho
  rcases m_ifE hf with ⟨-, hf⟩ | ⟨-, hf⟩
  ·
    obtain ⟨I6, ev, hf⟩ := m_bndE hf
    replace hR := frs_I hR (by decide) ev
    clear ev
    obtain ⟨I7, ev, hf⟩ := m_bndE hf
    replace hR := frs_I hR (by decide) ev
    clear ev
    obtain ⟨I8, ev, hf⟩ := m_bndE hf
    replace hR := frs_I hR (by decide) ev
    clear ev
    exact frs_t hR (fw_read_47  hf) (fun _ h => h) (fun _ h => h)
  ·
    exact frs_t hR (fw_read_47  hf) (fun _ h => h) (fun _ h => h)
theorem fw_read {o : Int32 × MS}  {I : Nat → Int32} {A : Nat → Nat → Int32} (hf : f_read  I A = some o) : FrS [0, 1, 5, 6, 25, 26, 27, 28, 29, 33, 36, 37, 38, 39] [7, 8, 9, 10, 11, 12, 13, 14, 15, 16, 17, 18, 19, 20, 21, 22, 23, 24, 30, 31, 32, 34, 35] I A o.2.1 o.2.2 := fw_read_0  hf
theorem fw_find_0 {o : Int32 × MS} {I : Nat → Int32} {A : Nat → Nat → Int32}  (hf : f_find_0 I A = some o) : FrS [0, 25, 26, 27, 28, 29, 36] [24, 30, 31, 35] I A o.2.1 o.2.2 := by
  have hR : FrS [0, 25, 26, 27, 28, 29, 36] [24, 30, 31, 35] I A I A := frs_0
  unfold f_find_0 at hf
  obtain ⟨I1, ev, hf⟩ := m_bndE hf
  replace hR := frs_I hR (by decide) ev
  clear ev
  obtain ⟨or2, ho, hf⟩ := m_clE hf
  replace hR := frs_t hR (fw_understood ho) (by decide) (by decide)
  clear ho
  cases hf
  exact hR
theorem fw_find {o : Int32 × MS}  {I : Nat → Int32} {A : Nat → Nat → Int32} (hf : f_find  I A = some o) : FrS [0, 25, 26, 27, 28, 29, 36] [24, 30, 31, 35] I A o.2.1 o.2.2 := fw_find_0  hf
theorem fw_type_28 {o : Int32 × MS} {I : Nat → Int32} {A : Nat → Nat → Int32}  (hf : f_type_28 I A = some o) : FrS [0, 1] [2] I A o.2.1 o.2.2 := by
  have hR : FrS [0, 1] [2] I A I A := frs_0
  unfold f_type_28 at hf
  obtain ⟨-, hf⟩ := m_chkE hf
  cases hf
  exact hR
theorem fw_type_90s {o : Int32 × MS} {self90 : Int64 → Int32 → Int32 → (Nat → Int32) → (Nat → Nat → Int32) → Option (Int32 × MS)} {x1 : Int64} {x3 : Int32} {x4 : Int32} {I : Nat → Int32} {A : Nat → Nat → Int32} (hself90 : ∀ (z0 : Int64) (z1 : Int32) (z2 : Int32) (I : Nat → Int32) (A : Nat → Nat → Int32) (o : Int32 × MS), self90 z0 z1 z2 I A = some o → FrS [0, 1] [2] I A o.2.1 o.2.2) (hf : f_type_90s self90 x1 x3 x4 I A = some o) : FrS [0, 1] [2] I A o.2.1 o.2.2 := by
  have hR : FrS [0, 1] [2] I A I A := frs_0
  unfold f_type_90s at hf
  rcases m_ifE hf with ⟨-, hf⟩ | ⟨-, hf⟩
  ·
    obtain ⟨-, hf⟩ := m_chkE hf
    cases hf
    exact hR
  ·
    obtain ⟨v1, ev, hf⟩ := m_bndE hf
    clear ev
    obtain ⟨v2, ev, hf⟩ := m_bndE hf
    clear ev
    obtain ⟨v3, ev, hf⟩ := m_bndE hf
    clear ev
    obtain ⟨v4, ev, hf⟩ := m_bndE hf
    clear ev
    obtain ⟨v5, ev, hf⟩ := m_bndE hf
    clear ev
    obtain ⟨-, hf⟩ := m_chkE hf
    obtain ⟨A6, ev, hf⟩ := m_bndE hf
    replace hR := frs_A hR (by decide) ev
    clear ev
    obtain ⟨v7, ev, hf⟩ := m_bndE hf
    clear ev
    obtain ⟨I8, ev, hf⟩ := m_bndE hf
    replace hR := frs_I hR (by decide) ev
    clear ev
    obtain ⟨v9, ev, hf⟩ := m_bndE hf
    clear ev
    exact frs_t hR (hself90 _ _ _ _ _ _ hf) (fun _ h => h) (fun _ h => h)
theorem fw_type_90   (n : Nat) : ∀ (y0 : Int64) (y1 : Int32) (y2 : Int32) (I : Nat → Int32) (A : Nat → Nat → Int32) (o : Int32 × MS), f_type_90  n y0 y1 y2 I A = some o → FrS [0, 1] [2] I A o.2.1 o.2.2 := by
  induction n with
  | zero => intro y0 y1 y2 I A o hf; cases hf
  | succ n ih => intro y0 y1 y2 I A o hf; exact fw_type_90s  ih hf
theorem fw_type_81 {o : Int32 × MS} {self33 : Int64 → Int32 → Int32 → (Nat → Int32) → (Nat → Nat → Int32) → Option (Int32 × MS)} {x1 : Int64} {x3 : Int32} {x4 : Int32} {I : Nat → Int32} {A : Nat → Nat → Int32} (hself33 : ∀ (z0 : Int64) (z1 : Int32) (z2 : Int32) (I : Nat → Int32) (A : Nat → Nat → Int32) (o : Int32 × MS), self33 z0 z1 z2 I A = some o → FrS [0, 1] [2] I A o.2.1 o.2.2) (hf : f_type_81 self33 x1 x3 x4 I A = some o) : FrS [0, 1] [2] I A o.2.1 o.2.2 := by
  have hR : FrS [0, 1] [2] I A I A := frs_0
  unfold f_type_81 at hf
  obtain ⟨v1, ev, hf⟩ := m_bndE hf
  clear ev
  exact frs_t hR (hself33 _ _ _ _ _ _ hf) (fun _ h => h) (fun _ h => h)
theorem fw_type_79 {o : Int32 × MS} {I : Nat → Int32} {A : Nat → Nat → Int32}  (hf : f_type_79 I A = some o) : FrS [0, 1] [2] I A o.2.1 o.2.2 := by
  have hR : FrS [0, 1] [2] I A I A := frs_0
  unfold f_type_79 at hf
  obtain ⟨-, hf⟩ := m_chkE hf
  cases hf
  exact hR
theorem fw_type_33s {o : Int32 × MS} {self33 : Int64 → Int32 → Int32 → (Nat → Int32) → (Nat → Nat → Int32) → Option (Int32 × MS)} {x1 : Int64} {x3 : Int32} {x4 : Int32} {I : Nat → Int32} {A : Nat → Nat → Int32} (hself33 : ∀ (z0 : Int64) (z1 : Int32) (z2 : Int32) (I : Nat → Int32) (A : Nat → Nat → Int32) (o : Int32 × MS), self33 z0 z1 z2 I A = some o → FrS [0, 1] [2] I A o.2.1 o.2.2) (hf : f_type_33s self33 x1 x3 x4 I A = some o) : FrS [0, 1] [2] I A o.2.1 o.2.2 := by
  have hR : FrS [0, 1] [2] I A I A := frs_0
  unfold f_type_33s at hf
  rcases m_ifE hf with ⟨-, hf⟩ | ⟨-, hf⟩
  ·
    exact frs_t hR (fw_type_90  mFuel _ _ _ _ _ _ hf) (fun _ h => h) (fun _ h => h)
  ·
    obtain ⟨v1, ev, hf⟩ := m_bndE hf
    clear ev
    obtain ⟨v2, ev, hf⟩ := m_bndE hf
    clear ev
    obtain ⟨v3, ev, hf⟩ := m_bndE hf
    clear ev
    obtain ⟨v4, ev, hf⟩ := m_bndE hf
    clear ev
    rcases m_ifE hf with ⟨-, hf⟩ | ⟨-, hf⟩
    ·
      exact frs_t hR (fw_type_81 hself33 hf) (fun _ h => h) (fun _ h => h)
    ·
      obtain ⟨v5, ev, hf⟩ := m_bndE hf
      clear ev
      rcases m_ifE hf with ⟨-, hf⟩ | ⟨-, hf⟩
      ·
        exact frs_t hR (fw_type_79  hf) (fun _ h => h) (fun _ h => h)
      ·
        obtain ⟨v6, ev, hf⟩ := m_bndE hf
        clear ev
        rcases m_ifE hf with ⟨-, hf⟩ | ⟨-, hf⟩
        ·
          exact frs_t hR (fw_type_81 hself33 hf) (fun _ h => h) (fun _ h => h)
        ·
          exact frs_t hR (fw_type_79  hf) (fun _ h => h) (fun _ h => h)
theorem fw_type_33   (n : Nat) : ∀ (y0 : Int64) (y1 : Int32) (y2 : Int32) (I : Nat → Int32) (A : Nat → Nat → Int32) (o : Int32 × MS), f_type_33  n y0 y1 y2 I A = some o → FrS [0, 1] [2] I A o.2.1 o.2.2 := by
  induction n with
  | zero => intro y0 y1 y2 I A o hf; cases hf
  | succ n ih => intro y0 y1 y2 I A o hf; exact fw_type_33s  ih hf
theorem fw_type_0 {o : Int32 × MS} {x1 : Int64} {x3 : Int32} {I : Nat → Int32} {A : Nat → Nat → Int32}  (hf : f_type_0 x1 x3 I A = some o) : FrS [0, 1] [2] I A o.2.1 o.2.2 := by
  have hR : FrS [0, 1] [2] I A I A := frs_0
  unfold f_type_0 at hf
  obtain ⟨I1, ev, hf⟩ := m_bndE hf
  replace hR := frs_I hR (by decide) ev
  clear ev
  rcases m_ifE hf with ⟨-, hf⟩ | ⟨-, hf⟩
  ·
    exact frs_t hR (fw_type_28  hf) (fun _ h => h) (fun _ h => h)
  ·
    rcases m_ifE hf with ⟨-, hf⟩ | ⟨-, hf⟩
    ·
      exact frs_t hR (fw_type_28  hf) (fun _ h => h) (fun _ h => h)
    ·
      obtain ⟨v2, ev, hf⟩ := m_bndE hf
      clear ev
      rcases m_ifE hf with ⟨-, hf⟩ | ⟨-, hf⟩
      ·
        exact frs_t hR (fw_type_33  mFuel _ _ _ _ _ _ hf) (fun _ h => h) (fun _ h => h)
      ·
        exact frs_t hR (fw_type_28  hf) (fun _ h => h) (fun _ h => h)
theorem fw_type {o : Int32 × MS} {x1 : Int64} {x3 : Int32} {I : Nat → Int32} {A : Nat → Nat → Int32} (hf : f_type x1 x3 I A = some o) : FrS [0, 1] [2] I A o.2.1 o.2.2 := fw_type_0  hf
theorem fw_cut_17 {o : Int32 × MS} {I : Nat → Int32} {A : Nat → Nat → Int32}  (hf : f_cut_17 I A = some o) : FrS [0, 1] [] I A o.2.1 o.2.2 := by
  have hR : FrS [0, 1] [] I A I A := frs_0
  unfold f_cut_17 at hf
  obtain ⟨-, hf⟩ := m_chkE hf
  cases hf
  exact hR
theorem fw_cut_0 {o : Int32 × MS} {x1 : Int32} {I : Nat → Int32} {A : Nat → Nat → Int32}  (hf : f_cut_0 x1 I A = some o) : FrS [0, 1] [] I A o.2.1 o.2.2 := by
  have hR : FrS [0, 1] [] I A I A := frs_0
  unfold f_cut_0 at hf
  obtain ⟨I1, ev, hf⟩ := m_bndE hf
  replace hR := frs_I hR (by decide) ev
  clear ev
  rcases m_ifE hf with ⟨-, hf⟩ | ⟨-, hf⟩
  ·
    exact frs_t hR (fw_cut_17  hf) (fun _ h => h) (fun _ h => h)
  ·
    rcases m_ifE hf with ⟨-, hf⟩ | ⟨-, hf⟩
    ·
      obtain ⟨I2, ev, hf⟩ := m_bndE hf
      replace hR := frs_I hR (by decide) ev
      clear ev
      obtain ⟨-, hf⟩ := m_chkE hf
      cases hf
      exact hR
    ·
      exact frs_t hR (fw_cut_17  hf) (fun _ h => h) (fun _ h => h)
theorem fw_cut {o : Int32 × MS} {x1 : Int32} {I : Nat → Int32} {A : Nat → Nat → Int32} (hf : f_cut x1 I A = some o) : FrS [0, 1] [] I A o.2.1 o.2.2 := fw_cut_0  hf
theorem fw_ink_0 {o : Int32 × MS} {x1 : Int32} {I : Nat → Int32} {A : Nat → Nat → Int32}  (hf : f_ink_0 x1 I A = some o) : FrS [3] [4] I A o.2.1 o.2.2 := by
  have hR : FrS [3] [4] I A I A := frs_0
  unfold f_ink_0 at hf
  obtain ⟨-, hf⟩ := m_chkE hf
  obtain ⟨A1, ev, hf⟩ := m_bndE hf
  replace hR := frs_A hR (by decide) ev
  clear ev
  obtain ⟨v2, ev, hf⟩ := m_bndE hf
  clear ev
  obtain ⟨I3, ev, hf⟩ := m_bndE hf
  replace hR := frs_I hR (by decide) ev
  clear ev
  cases hf
  exact hR
theorem fw_ink {o : Int32 × MS} {x1 : Int32} {I : Nat → Int32} {A : Nat → Nat → Int32} (hf : f_ink x1 I A = some o) : FrS [3] [4] I A o.2.1 o.2.2 := fw_ink_0  hf
theorem fw_sayNumber_18s {o : Int32 × MS} {self18 : Int32 → Int32 → (Nat → Int32) → (Nat → Nat → Int32) → Option (Int32 × MS)} {x1 : Int32} {x2 : Int32} {I : Nat → Int32} {A : Nat → Nat → Int32} (hself18 : ∀ (z0 : Int32) (z1 : Int32) (I : Nat → Int32) (A : Nat → Nat → Int32) (o : Int32 × MS), self18 z0 z1 I A = some o → FrS [3] [4] I A o.2.1 o.2.2) (hf : f_sayNumber_18s self18 x1 x2 I A = some o) : FrS [3] [4] I A o.2.1 o.2.2 := by
  have hR : FrS [3] [4] I A I A := frs_0
  unfold f_sayNumber_18s at hf
  rcases m_ifE hf with ⟨-, hf⟩ | ⟨-, hf⟩
  ·
    cases hf
    exact hR
  ·
    obtain ⟨-, hf⟩ := m_chkE hf
    obtain ⟨v1, ev, hf⟩ := m_bndE hf
    clear ev
    obtain ⟨v2, ev, hf⟩ := m_bndE hf
    clear ev
    obtain ⟨v3, ev, hf⟩ := m_bndE hf
    clear ev
    obtain ⟨v4, ev, hf⟩ := m_bndE hf
    clear ev
    obtain ⟨or5, ho, hf⟩ := m_clE hf
    replace hR := frs_t hR (fw_ink ho) (by decide) (by decide)
    clear ho
    obtain ⟨v6, ev, hf⟩ := m_bndE hf
    clear ev
    exact frs_t hR (hself18 _ _ _ _ _ hf) (fun _ h => h) (fun _ h => h)
theorem fw_sayNumber_18   (n : Nat) : ∀ (y0 : Int32) (y1 : Int32) (I : Nat → Int32) (A : Nat → Nat → Int32) (o : Int32 × MS), f_sayNumber_18  n y0 y1 I A = some o → FrS [3] [4] I A o.2.1 o.2.2 := by
  induction n with
  | zero => intro y0 y1 I A o hf; cases hf
  | succ n ih => intro y0 y1 I A o hf; exact fw_sayNumber_18s  ih hf
theorem fw_sayNumber_2s {o : Int32 × MS} {self2 : Int32 → Int32 → (Nat → Int32) → (Nat → Nat → Int32) → Option (Int32 × MS)} {x1 : Int32} {x2 : Int32} {I : Nat → Int32} {A : Nat → Nat → Int32} (hself2 : ∀ (z0 : Int32) (z1 : Int32) (I : Nat → Int32) (A : Nat → Nat → Int32) (o : Int32 × MS), self2 z0 z1 I A = some o → FrS [3] [4] I A o.2.1 o.2.2) (hf : f_sayNumber_2s self2 x1 x2 I A = some o) : FrS [3] [4] I A o.2.1 o.2.2 := by
  have hR : FrS [3] [4] I A I A := frs_0
  unfold f_sayNumber_2s at hf
  obtain ⟨v1, ev, hf⟩ := m_bndE hf
  clear ev
  rcases m_ifE hf with ⟨-, hf⟩ | ⟨-, hf⟩
  ·
    exact frs_t hR (fw_sayNumber_18  mFuel _ _ _ _ _ hf) (fun _ h => h) (fun _ h => h)
  ·
    obtain ⟨v2, ev, hf⟩ := m_bndE hf
    clear ev
    exact frs_t hR (hself2 _ _ _ _ _ hf) (fun _ h => h) (fun _ h => h)
theorem fw_sayNumber_2   (n : Nat) : ∀ (y0 : Int32) (y1 : Int32) (I : Nat → Int32) (A : Nat → Nat → Int32) (o : Int32 × MS), f_sayNumber_2  n y0 y1 I A = some o → FrS [3] [4] I A o.2.1 o.2.2 := by
  induction n with
  | zero => intro y0 y1 I A o hf; cases hf
  | succ n ih => intro y0 y1 I A o hf; exact fw_sayNumber_2s  ih hf
theorem fw_sayNumber_0 {o : Int32 × MS} {x1 : Int32} {I : Nat → Int32} {A : Nat → Nat → Int32}  (hf : f_sayNumber_0 x1 I A = some o) : FrS [3] [4] I A o.2.1 o.2.2 := by
  have hR : FrS [3] [4] I A I A := frs_0
  unfold f_sayNumber_0 at hf
  exact frs_t hR (fw_sayNumber_2  mFuel _ _ _ _ _ hf) (fun _ h => h) (fun _ h => h)
theorem fw_sayNumber {o : Int32 × MS} {x1 : Int32} {I : Nat → Int32} {A : Nat → Nat → Int32} (hf : f_sayNumber x1 I A = some o) : FrS [3] [4] I A o.2.1 o.2.2 := fw_sayNumber_0  hf
theorem fw_sayRemark_8s {o : Int32 × MS} {self8 : Int32 → Int32 → (Nat → Int32) → (Nat → Nat → Int32) → Option (Int32 × MS)} {x1 : Int32} {x2 : Int32} {I : Nat → Int32} {A : Nat → Nat → Int32} (hself8 : ∀ (z0 : Int32) (z1 : Int32) (I : Nat → Int32) (A : Nat → Nat → Int32) (o : Int32 × MS), self8 z0 z1 I A = some o → FrS [3] [4] I A o.2.1 o.2.2) (hf : f_sayRemark_8s self8 x1 x2 I A = some o) : FrS [3] [4] I A o.2.1 o.2.2 := by
  have hR : FrS [3] [4] I A I A := frs_0
  unfold f_sayRemark_8s at hf
  obtain ⟨-, hf⟩ := m_chkE hf
  obtain ⟨v1, ev, hf⟩ := m_bndE hf
  clear ev
  rcases m_ifE hf with ⟨-, hf⟩ | ⟨-, hf⟩
  ·
    obtain ⟨or2, ho, hf⟩ := m_clE hf
    replace hR := frs_t hR (fw_ink ho) (by decide) (by decide)
    clear ho
    cases hf
    exact hR
  ·
    obtain ⟨v3, ev, hf⟩ := m_bndE hf
    clear ev
    obtain ⟨v4, ev, hf⟩ := m_bndE hf
    clear ev
    obtain ⟨-, hf⟩ := m_chkE hf
    obtain ⟨v5, ev, hf⟩ := m_bndE hf
    clear ev
    obtain ⟨or6, ho, hf⟩ := m_clE hf
    replace hR := frs_t hR (fw_ink ho) (by decide) (by decide)
    clear ho
    obtain ⟨v7, ev, hf⟩ := m_bndE hf
    clear ev
    exact frs_t hR (hself8 _ _ _ _ _ hf) (fun _ h => h) (fun _ h => h)
theorem fw_sayRemark_8   (n : Nat) : ∀ (y0 : Int32) (y1 : Int32) (I : Nat → Int32) (A : Nat → Nat → Int32) (o : Int32 × MS), f_sayRemark_8  n y0 y1 I A = some o → FrS [3] [4] I A o.2.1 o.2.2 := by
  induction n with
  | zero => intro y0 y1 I A o hf; cases hf
  | succ n ih => intro y0 y1 I A o hf; exact fw_sayRemark_8s  ih hf
theorem fw_sayRemark_0 {o : Int32 × MS} {x1 : Int32} {I : Nat → Int32} {A : Nat → Nat → Int32}  (hf : f_sayRemark_0 x1 I A = some o) : FrS [3] [4] I A o.2.1 o.2.2 := by
  have hR : FrS [3] [4] I A I A := frs_0
  unfold f_sayRemark_0 at hf
  obtain ⟨or1, ho, hf⟩ := m_clE hf
  replace hR := frs_t hR (fw_ink ho) (by decide) (by decide)
  clear ho
  exact frs_t hR (fw_sayRemark_8  mFuel _ _ _ _ _ hf) (fun _ h => h) (fun _ h => h)
theorem fw_sayRemark {o : Int32 × MS} {x1 : Int32} {I : Nat → Int32} {A : Nat → Nat → Int32} (hf : f_sayRemark x1 I A = some o) : FrS [3] [4] I A o.2.1 o.2.2 := fw_sayRemark_0  hf
theorem fw_sayMove_188 {o : Int32 × MS} {I : Nat → Int32} {A : Nat → Nat → Int32}  (hf : f_sayMove_188 I A = some o) : FrS [3, 25, 26, 27, 28, 29, 33, 36] [4, 24, 30, 31, 32, 34, 35] I A o.2.1 o.2.2 := by
  have hR : FrS [3, 25, 26, 27, 28, 29, 33, 36] [4, 24, 30, 31, 32, 34, 35] I A I A := frs_0
  unfold f_sayMove_188 at hf
  cases hf
  exact hR
theorem fw_sayMove_124s {o : Int32 × MS} {self124 : Int32 → Int32 → (Nat → Int32) → (Nat → Nat → Int32) → Option (Int32 × MS)} {x3 : Int32} {x4 : Int32} {I : Nat → Int32} {A : Nat → Nat → Int32} (hself124 : ∀ (z0 : Int32) (z1 : Int32) (I : Nat → Int32) (A : Nat → Nat → Int32) (o : Int32 × MS), self124 z0 z1 I A = some o → FrS [3, 25, 26, 27, 28, 29, 33, 36] [4, 24, 30, 31, 32, 34, 35] I A o.2.1 o.2.2) (hf : f_sayMove_124s self124 x3 x4 I A = some o) : FrS [3, 25, 26, 27, 28, 29, 33, 36] [4, 24, 30, 31, 32, 34, 35] I A o.2.1 o.2.2 := by
  have hR : FrS [3, 25, 26, 27, 28, 29, 33, 36] [4, 24, 30, 31, 32, 34, 35] I A I A := frs_0
  unfold f_sayMove_124s at hf
  obtain ⟨-, hf⟩ := m_chkE hf
  obtain ⟨v1, ev, hf⟩ := m_bndE hf
  clear ev
  rcases m_ifE hf with ⟨-, hf⟩ | ⟨-, hf⟩
  ·
    obtain ⟨-, hf⟩ := m_chkE hf
    obtain ⟨v2, ev, hf⟩ := m_bndE hf
    clear ev
    rcases m_ifE hf with ⟨-, hf⟩ | ⟨-, hf⟩
    ·
      exact frs_t hR (fw_sayMove_188  hf) (fun _ h => h) (fun _ h => h)
    ·
      obtain ⟨or3, ho, hf⟩ := m_clE hf
      replace hR := frs_t hR (fw_ink ho) (by decide) (by decide)
      clear ho
      obtain ⟨or4, ho, hf⟩ := m_clE hf
      replace hR := frs_t hR (fw_sayRemark ho) (by decide) (by decide)
      clear ho
      exact frs_t hR (fw_sayMove_188  hf) (fun _ h => h) (fun _ h => h)
  ·
    obtain ⟨or5, ho, hf⟩ := m_clE hf
    replace hR := frs_t hR (fw_ink ho) (by decide) (by decide)
    clear ho
    obtain ⟨or6, ho, hf⟩ := m_clE hf
    replace hR := frs_t hR (fw_ink ho) (by decide) (by decide)
    clear ho
    obtain ⟨v7, ev, hf⟩ := m_bndE hf
    clear ev
    obtain ⟨v8, ev, hf⟩ := m_bndE hf
    clear ev
    obtain ⟨-, hf⟩ := m_chkE hf
    obtain ⟨v9, ev, hf⟩ := m_bndE hf
    clear ev
    obtain ⟨or10, ho, hf⟩ := m_clE hf
    replace hR := frs_t hR (fw_sayNumber ho) (by decide) (by decide)
    clear ho
    obtain ⟨v11, ev, hf⟩ := m_bndE hf
    clear ev
    exact frs_t hR (hself124 _ _ _ _ _ hf) (fun _ h => h) (fun _ h => h)
theorem fw_sayMove_124   (n : Nat) : ∀ (y0 : Int32) (y1 : Int32) (I : Nat → Int32) (A : Nat → Nat → Int32) (o : Int32 × MS), f_sayMove_124  n y0 y1 I A = some o → FrS [3, 25, 26, 27, 28, 29, 33, 36] [4, 24, 30, 31, 32, 34, 35] I A o.2.1 o.2.2 := by
  induction n with
  | zero => intro y0 y1 I A o hf; cases hf
  | succ n ih => intro y0 y1 I A o hf; exact fw_sayMove_124s  ih hf
theorem fw_sayMove_95s {o : Int32 × MS} {self95 : Int32 → Int32 → (Nat → Int32) → (Nat → Nat → Int32) → Option (Int32 × MS)} {x3 : Int32} {x4 : Int32} {I : Nat → Int32} {A : Nat → Nat → Int32} (hself95 : ∀ (z0 : Int32) (z1 : Int32) (I : Nat → Int32) (A : Nat → Nat → Int32) (o : Int32 × MS), self95 z0 z1 I A = some o → FrS [3, 25, 26, 27, 28, 29, 33, 36] [4, 24, 30, 31, 32, 34, 35] I A o.2.1 o.2.2) (hf : f_sayMove_95s self95 x3 x4 I A = some o) : FrS [3, 25, 26, 27, 28, 29, 33, 36] [4, 24, 30, 31, 32, 34, 35] I A o.2.1 o.2.2 := by
  have hR : FrS [3, 25, 26, 27, 28, 29, 33, 36] [4, 24, 30, 31, 32, 34, 35] I A I A := frs_0
  unfold f_sayMove_95s at hf
  rcases m_ifE hf with ⟨-, hf⟩ | ⟨-, hf⟩
  ·
    exact frs_t hR (fw_sayMove_124  mFuel _ _ _ _ _ hf) (fun _ h => h) (fun _ h => h)
  ·
    obtain ⟨-, hf⟩ := m_chkE hf
    obtain ⟨v1, ev, hf⟩ := m_bndE hf
    clear ev
    obtain ⟨or2, ho, hf⟩ := m_clE hf
    replace hR := frs_t hR (fw_ink ho) (by decide) (by decide)
    clear ho
    obtain ⟨v3, ev, hf⟩ := m_bndE hf
    clear ev
    exact frs_t hR (hself95 _ _ _ _ _ hf) (fun _ h => h) (fun _ h => h)
theorem fw_sayMove_95   (n : Nat) : ∀ (y0 : Int32) (y1 : Int32) (I : Nat → Int32) (A : Nat → Nat → Int32) (o : Int32 × MS), f_sayMove_95  n y0 y1 I A = some o → FrS [3, 25, 26, 27, 28, 29, 33, 36] [4, 24, 30, 31, 32, 34, 35] I A o.2.1 o.2.2 := by
  induction n with
  | zero => intro y0 y1 I A o hf; cases hf
  | succ n ih => intro y0 y1 I A o hf; exact fw_sayMove_95s  ih hf
theorem fw_sayMove_82 {o : Int32 × MS} {x3 : Int32} {I : Nat → Int32} {A : Nat → Nat → Int32}  (hf : f_sayMove_82 x3 I A = some o) : FrS [3, 25, 26, 27, 28, 29, 33, 36] [4, 24, 30, 31, 32, 34, 35] I A o.2.1 o.2.2 := by
  have hR : FrS [3, 25, 26, 27, 28, 29, 33, 36] [4, 24, 30, 31, 32, 34, 35] I A I A := frs_0
  unfold f_sayMove_82 at hf
  obtain ⟨-, hf⟩ := m_chkE hf
  obtain ⟨v1, ev, hf⟩ := m_bndE hf
  clear ev
  obtain ⟨or2, ho, hf⟩ := m_clE hf
  replace hR := frs_t hR (fw_spellWhole ho) (by decide) (by decide)
  clear ho
  exact frs_t hR (fw_sayMove_95  mFuel _ _ _ _ _ hf) (fun _ h => h) (fun _ h => h)
theorem fw_sayMove_61 {o : Int32 × MS} {self47 : Int32 → Int32 → (Nat → Int32) → (Nat → Nat → Int32) → Option (Int32 × MS)} {x3 : Int32} {x4 : Int32} {t0 : Int32} {t1 : Int32} {I : Nat → Int32} {A : Nat → Nat → Int32} (hself47 : ∀ (z0 : Int32) (z1 : Int32) (I : Nat → Int32) (A : Nat → Nat → Int32) (o : Int32 × MS), self47 z0 z1 I A = some o → FrS [3, 25, 26, 27, 28, 29, 33, 36] [4, 24, 30, 31, 32, 34, 35] I A o.2.1 o.2.2) (hf : f_sayMove_61 self47 x3 x4 t0 t1 I A = some o) : FrS [3, 25, 26, 27, 28, 29, 33, 36] [4, 24, 30, 31, 32, 34, 35] I A o.2.1 o.2.2 := by
  have hR : FrS [3, 25, 26, 27, 28, 29, 33, 36] [4, 24, 30, 31, 32, 34, 35] I A I A := frs_0
  unfold f_sayMove_61 at hf
  rcases m_ifE hf with ⟨-, hf⟩ | ⟨-, hf⟩
  ·
    obtain ⟨or1, ho, hf⟩ := m_clE hf
    replace hR := frs_t hR (fw_ink ho) (by decide) (by decide)
    clear ho
    exact frs_t hR (fw_sayMove_82  hf) (fun _ h => h) (fun _ h => h)
  ·
    obtain ⟨or2, ho, hf⟩ := m_clE hf
    replace hR := frs_t hR (fw_ink ho) (by decide) (by decide)
    clear ho
    obtain ⟨v3, ev, hf⟩ := m_bndE hf
    clear ev
    exact frs_t hR (hself47 _ _ _ _ _ hf) (fun _ h => h) (fun _ h => h)
theorem fw_sayMove_47s {o : Int32 × MS} {self47 : Int32 → Int32 → (Nat → Int32) → (Nat → Nat → Int32) → Option (Int32 × MS)} {x3 : Int32} {x4 : Int32} {I : Nat → Int32} {A : Nat → Nat → Int32} (hself47 : ∀ (z0 : Int32) (z1 : Int32) (I : Nat → Int32) (A : Nat → Nat → Int32) (o : Int32 × MS), self47 z0 z1 I A = some o → FrS [3, 25, 26, 27, 28, 29, 33, 36] [4, 24, 30, 31, 32, 34, 35] I A o.2.1 o.2.2) (hf : f_sayMove_47s self47 x3 x4 I A = some o) : FrS [3, 25, 26, 27, 28, 29, 33, 36] [4, 24, 30, 31, 32, 34, 35] I A o.2.1 o.2.2 := by
  have hR : FrS [3, 25, 26, 27, 28, 29, 33, 36] [4, 24, 30, 31, 32, 34, 35] I A I A := frs_0
  unfold f_sayMove_47s at hf
  rcases m_ifE hf with ⟨-, hf⟩ | ⟨-, hf⟩
  ·
    exact frs_t hR (fw_sayMove_61 hself47 hf) (fun _ h => h) (fun _ h => h)
  ·
    exact frs_t hR (fw_sayMove_61 hself47 hf) (fun _ h => h) (fun _ h => h)
theorem fw_sayMove_47   (n : Nat) : ∀ (y0 : Int32) (y1 : Int32) (I : Nat → Int32) (A : Nat → Nat → Int32) (o : Int32 × MS), f_sayMove_47  n y0 y1 I A = some o → FrS [3, 25, 26, 27, 28, 29, 33, 36] [4, 24, 30, 31, 32, 34, 35] I A o.2.1 o.2.2 := by
  induction n with
  | zero => intro y0 y1 I A o hf; cases hf
  | succ n ih => intro y0 y1 I A o hf; exact fw_sayMove_47s  ih hf
theorem fw_sayMove_36 {o : Int32 × MS} {x3 : Int32} {I : Nat → Int32} {A : Nat → Nat → Int32}  (hf : f_sayMove_36 x3 I A = some o) : FrS [3, 25, 26, 27, 28, 29, 33, 36] [4, 24, 30, 31, 32, 34, 35] I A o.2.1 o.2.2 := by
  have hR : FrS [3, 25, 26, 27, 28, 29, 33, 36] [4, 24, 30, 31, 32, 34, 35] I A I A := frs_0
  unfold f_sayMove_36 at hf
  obtain ⟨or1, ho, hf⟩ := m_clE hf
  replace hR := frs_t hR (fw_sayNumber ho) (by decide) (by decide)
  clear ho
  exact frs_t hR (fw_sayMove_47  mFuel _ _ _ _ _ hf) (fun _ h => h) (fun _ h => h)
theorem fw_sayMove_0 {o : Int32 × MS} {x1 : Int32} {x2 : Int32} {I : Nat → Int32} {A : Nat → Nat → Int32}  (hf : f_sayMove_0 x1 x2 I A = some o) : FrS [3, 25, 26, 27, 28, 29, 33, 36] [4, 24, 30, 31, 32, 34, 35] I A o.2.1 o.2.2 := by
  have hR : FrS [3, 25, 26, 27, 28, 29, 33, 36] [4, 24, 30, 31, 32, 34, 35] I A I A := frs_0
  unfold f_sayMove_0 at hf
  obtain ⟨v1, ev, hf⟩ := m_bndE hf
  clear ev
  obtain ⟨v2, ev, hf⟩ := m_bndE hf
  clear ev
  obtain ⟨-, hf⟩ := m_chkE hf
  obtain ⟨v3, ev, hf⟩ := m_bndE hf
  clear ev
  obtain ⟨or4, ho, hf⟩ := m_clE hf
  replace hR := frs_t hR (fw_place ho) (by decide) (by decide)
  clear ho
  rcases m_ifE hf with ⟨-, hf⟩ | ⟨-, hf⟩
  ·
    exact frs_t hR (fw_sayMove_36  hf) (fun _ h => h) (fun _ h => h)
  ·
    rcases m_ifE hf with ⟨-, hf⟩ | ⟨-, hf⟩
    ·
      exact frs_t hR (fw_sayMove_82  hf) (fun _ h => h) (fun _ h => h)
    ·
      exact frs_t hR (fw_sayMove_36  hf) (fun _ h => h) (fun _ h => h)
theorem fw_sayMove {o : Int32 × MS} {x1 : Int32} {x2 : Int32} {I : Nat → Int32} {A : Nat → Nat → Int32} (hf : f_sayMove x1 x2 I A = some o) : FrS [3, 25, 26, 27, 28, 29, 33, 36] [4, 24, 30, 31, 32, 34, 35] I A o.2.1 o.2.2 := fw_sayMove_0  hf
theorem fw_sayLine_141 {o : Int32 × MS} {rec : Int32 → Int32 → (Nat → Int32) → (Nat → Nat → Int32) → Option (Int32 × MS)} {self8 : Int32 → Int32 → Int32 → (Nat → Int32) → (Nat → Nat → Int32) → Option (Int32 × MS)} {x3 : Int32} {x4 : Int32} {x5 : Int32} {I : Nat → Int32} {A : Nat → Nat → Int32} (hrec : ∀ (z0 : Int32) (z1 : Int32) (I : Nat → Int32) (A : Nat → Nat → Int32) (o : Int32 × MS), rec z0 z1 I A = some o → FrS [3, 25, 26, 27, 28, 29, 33, 36] [4, 24, 30, 31, 32, 34, 35] I A o.2.1 o.2.2) (hself8 : ∀ (z0 : Int32) (z1 : Int32) (z2 : Int32) (I : Nat → Int32) (A : Nat → Nat → Int32) (o : Int32 × MS), self8 z0 z1 z2 I A = some o → FrS [3, 25, 26, 27, 28, 29, 33, 36] [4, 24, 30, 31, 32, 34, 35] I A o.2.1 o.2.2) (hf : f_sayLine_141 rec self8 x3 x4 x5 I A = some o) : FrS [3, 25, 26, 27, 28, 29, 33, 36] [4, 24, 30, 31, 32, 34, 35] I A o.2.1 o.2.2 := by
  have hR : FrS [3, 25, 26, 27, 28, 29, 33, 36] [4, 24, 30, 31, 32, 34, 35] I A I A := frs_0
  unfold f_sayLine_141 at hf
  exact frs_t hR (hself8 _ _ _ _ _ _ hf) (fun _ h => h) (fun _ h => h)
theorem fw_sayLine_66s {o : Int32 × MS} {rec : Int32 → Int32 → (Nat → Int32) → (Nat → Nat → Int32) → Option (Int32 × MS)} {self8 : Int32 → Int32 → Int32 → (Nat → Int32) → (Nat → Nat → Int32) → Option (Int32 × MS)} {self66 : Int32 → Int32 → Int32 → (Nat → Int32) → (Nat → Nat → Int32) → Option (Int32 × MS)} {x4 : Int32} {x6 : Int32} {x7 : Int32} {I : Nat → Int32} {A : Nat → Nat → Int32} (hrec : ∀ (z0 : Int32) (z1 : Int32) (I : Nat → Int32) (A : Nat → Nat → Int32) (o : Int32 × MS), rec z0 z1 I A = some o → FrS [3, 25, 26, 27, 28, 29, 33, 36] [4, 24, 30, 31, 32, 34, 35] I A o.2.1 o.2.2) (hself8 : ∀ (z0 : Int32) (z1 : Int32) (z2 : Int32) (I : Nat → Int32) (A : Nat → Nat → Int32) (o : Int32 × MS), self8 z0 z1 z2 I A = some o → FrS [3, 25, 26, 27, 28, 29, 33, 36] [4, 24, 30, 31, 32, 34, 35] I A o.2.1 o.2.2) (hself66 : ∀ (z0 : Int32) (z1 : Int32) (z2 : Int32) (I : Nat → Int32) (A : Nat → Nat → Int32) (o : Int32 × MS), self66 z0 z1 z2 I A = some o → FrS [3, 25, 26, 27, 28, 29, 33, 36] [4, 24, 30, 31, 32, 34, 35] I A o.2.1 o.2.2) (hf : f_sayLine_66s rec self8 self66 x4 x6 x7 I A = some o) : FrS [3, 25, 26, 27, 28, 29, 33, 36] [4, 24, 30, 31, 32, 34, 35] I A o.2.1 o.2.2 := by
  have hR : FrS [3, 25, 26, 27, 28, 29, 33, 36] [4, 24, 30, 31, 32, 34, 35] I A I A := frs_0
  unfold f_sayLine_66s at hf
  rcases m_ifE hf with ⟨-, hf⟩ | ⟨-, hf⟩
  ·
    obtain ⟨-, hf⟩ := m_chkE hf
    obtain ⟨v1, ev, hf⟩ := m_bndE hf
    clear ev
    rcases m_ifE hf with ⟨-, hf⟩ | ⟨-, hf⟩
    ·
      exact frs_t hR (fw_sayLine_141 hrec hself8 hf) (fun _ h => h) (fun _ h => h)
    ·
      obtain ⟨or2, ho, hf⟩ := m_clE hf
      replace hR := frs_t hR (fw_ink ho) (by decide) (by decide)
      clear ho
      exact frs_t hR (fw_sayLine_141 hrec hself8 hf) (fun _ h => h) (fun _ h => h)
  ·
    obtain ⟨or3, ho, hf⟩ := m_clE hf
    replace hR := frs_t hR (fw_ink ho) (by decide) (by decide)
    clear ho
    obtain ⟨or4, ho, hf⟩ := m_clE hf
    replace hR := frs_t hR (fw_ink ho) (by decide) (by decide)
    clear ho
    obtain ⟨or5, ho, hf⟩ := m_clE hf
    replace hR := frs_t hR (hrec _ _ _ _ _ ho) (by decide) (by decide)
    clear ho
    obtain ⟨or6, ho, hf⟩ := m_clE hf
    replace hR := frs_t hR (fw_ink ho) (by decide) (by decide)
    clear ho
    obtain ⟨v7, ev, hf⟩ := m_bndE hf
    clear ev
    obtain ⟨v8, ev, hf⟩ := m_bndE hf
    clear ev
    obtain ⟨-, hf⟩ := m_chkE hf
    obtain ⟨v9, ev, hf⟩ := m_bndE hf
    clear ev
    exact frs_t hR (hself66 _ _ _ _ _ _ hf) (fun _ h => h) (fun _ h => h)
theorem fw_sayLine_66 {rec : Int32 → Int32 → (Nat → Int32) → (Nat → Nat → Int32) → Option (Int32 × MS)} {self8 : Int32 → Int32 → Int32 → (Nat → Int32) → (Nat → Nat → Int32) → Option (Int32 × MS)} (hrec : ∀ (z0 : Int32) (z1 : Int32) (I : Nat → Int32) (A : Nat → Nat → Int32) (o : Int32 × MS), rec z0 z1 I A = some o → FrS [3, 25, 26, 27, 28, 29, 33, 36] [4, 24, 30, 31, 32, 34, 35] I A o.2.1 o.2.2) (hself8 : ∀ (z0 : Int32) (z1 : Int32) (z2 : Int32) (I : Nat → Int32) (A : Nat → Nat → Int32) (o : Int32 × MS), self8 z0 z1 z2 I A = some o → FrS [3, 25, 26, 27, 28, 29, 33, 36] [4, 24, 30, 31, 32, 34, 35] I A o.2.1 o.2.2) (n : Nat) : ∀ (y0 : Int32) (y1 : Int32) (y2 : Int32) (I : Nat → Int32) (A : Nat → Nat → Int32) (o : Int32 × MS), f_sayLine_66 rec self8 n y0 y1 y2 I A = some o → FrS [3, 25, 26, 27, 28, 29, 33, 36] [4, 24, 30, 31, 32, 34, 35] I A o.2.1 o.2.2 := by
  induction n with
  | zero => intro y0 y1 y2 I A o hf; cases hf
  | succ n ih => intro y0 y1 y2 I A o hf; exact fw_sayLine_66s hrec hself8 ih hf
theorem fw_sayLine_64 {o : Int32 × MS} {rec : Int32 → Int32 → (Nat → Int32) → (Nat → Nat → Int32) → Option (Int32 × MS)} {self8 : Int32 → Int32 → Int32 → (Nat → Int32) → (Nat → Nat → Int32) → Option (Int32 × MS)} {x4 : Int32} {x6 : Int32} {t0 : Int32} {I : Nat → Int32} {A : Nat → Nat → Int32} (hrec : ∀ (z0 : Int32) (z1 : Int32) (I : Nat → Int32) (A : Nat → Nat → Int32) (o : Int32 × MS), rec z0 z1 I A = some o → FrS [3, 25, 26, 27, 28, 29, 33, 36] [4, 24, 30, 31, 32, 34, 35] I A o.2.1 o.2.2) (hself8 : ∀ (z0 : Int32) (z1 : Int32) (z2 : Int32) (I : Nat → Int32) (A : Nat → Nat → Int32) (o : Int32 × MS), self8 z0 z1 z2 I A = some o → FrS [3, 25, 26, 27, 28, 29, 33, 36] [4, 24, 30, 31, 32, 34, 35] I A o.2.1 o.2.2) (hf : f_sayLine_64 rec self8 x4 x6 t0 I A = some o) : FrS [3, 25, 26, 27, 28, 29, 33, 36] [4, 24, 30, 31, 32, 34, 35] I A o.2.1 o.2.2 := by
  have hR : FrS [3, 25, 26, 27, 28, 29, 33, 36] [4, 24, 30, 31, 32, 34, 35] I A I A := frs_0
  unfold f_sayLine_64 at hf
  exact frs_t hR (fw_sayLine_66 hrec hself8 mFuel _ _ _ _ _ _ hf) (fun _ h => h) (fun _ h => h)
theorem fw_sayLine_46 {o : Int32 × MS} {rec : Int32 → Int32 → (Nat → Int32) → (Nat → Nat → Int32) → Option (Int32 × MS)} {self8 : Int32 → Int32 → Int32 → (Nat → Int32) → (Nat → Nat → Int32) → Option (Int32 × MS)} {x5 : Int32} {x6 : Int32} {t0 : Int32} {I : Nat → Int32} {A : Nat → Nat → Int32} (hrec : ∀ (z0 : Int32) (z1 : Int32) (I : Nat → Int32) (A : Nat → Nat → Int32) (o : Int32 × MS), rec z0 z1 I A = some o → FrS [3, 25, 26, 27, 28, 29, 33, 36] [4, 24, 30, 31, 32, 34, 35] I A o.2.1 o.2.2) (hself8 : ∀ (z0 : Int32) (z1 : Int32) (z2 : Int32) (I : Nat → Int32) (A : Nat → Nat → Int32) (o : Int32 × MS), self8 z0 z1 z2 I A = some o → FrS [3, 25, 26, 27, 28, 29, 33, 36] [4, 24, 30, 31, 32, 34, 35] I A o.2.1 o.2.2) (hf : f_sayLine_46 rec self8 x5 x6 t0 I A = some o) : FrS [3, 25, 26, 27, 28, 29, 33, 36] [4, 24, 30, 31, 32, 34, 35] I A o.2.1 o.2.2 := by
  have hR : FrS [3, 25, 26, 27, 28, 29, 33, 36] [4, 24, 30, 31, 32, 34, 35] I A I A := frs_0
  unfold f_sayLine_46 at hf
  rcases m_ifE hf with ⟨-, hf⟩ | ⟨-, hf⟩
  ·
    exact frs_t hR (fw_sayLine_64 hrec hself8 hf) (fun _ h => h) (fun _ h => h)
  ·
    obtain ⟨-, hf⟩ := m_chkE hf
    obtain ⟨v1, ev, hf⟩ := m_bndE hf
    clear ev
    exact frs_t hR (fw_sayLine_64 hrec hself8 hf) (fun _ h => h) (fun _ h => h)
theorem fw_sayLine_8s {o : Int32 × MS} {rec : Int32 → Int32 → (Nat → Int32) → (Nat → Nat → Int32) → Option (Int32 × MS)} {self8 : Int32 → Int32 → Int32 → (Nat → Int32) → (Nat → Nat → Int32) → Option (Int32 × MS)} {x3 : Int32} {x4 : Int32} {x5 : Int32} {I : Nat → Int32} {A : Nat → Nat → Int32} (hrec : ∀ (z0 : Int32) (z1 : Int32) (I : Nat → Int32) (A : Nat → Nat → Int32) (o : Int32 × MS), rec z0 z1 I A = some o → FrS [3, 25, 26, 27, 28, 29, 33, 36] [4, 24, 30, 31, 32, 34, 35] I A o.2.1 o.2.2) (hself8 : ∀ (z0 : Int32) (z1 : Int32) (z2 : Int32) (I : Nat → Int32) (A : Nat → Nat → Int32) (o : Int32 × MS), self8 z0 z1 z2 I A = some o → FrS [3, 25, 26, 27, 28, 29, 33, 36] [4, 24, 30, 31, 32, 34, 35] I A o.2.1 o.2.2) (hf : f_sayLine_8s rec self8 x3 x4 x5 I A = some o) : FrS [3, 25, 26, 27, 28, 29, 33, 36] [4, 24, 30, 31, 32, 34, 35] I A o.2.1 o.2.2 := by
  have hR : FrS [3, 25, 26, 27, 28, 29, 33, 36] [4, 24, 30, 31, 32, 34, 35] I A I A := frs_0
  unfold f_sayLine_8s at hf
  rcases m_ifE hf with ⟨-, hf⟩ | ⟨-, hf⟩
  ·
    cases hf
    exact hR
  ·
    obtain ⟨v1, ev, hf⟩ := m_bndE hf
    clear ev
    obtain ⟨v2, ev, hf⟩ := m_bndE hf
    clear ev
    obtain ⟨or3, ho, hf⟩ := m_clE hf
    replace hR := frs_t hR (fw_sayMove ho) (by decide) (by decide)
    clear ho
    obtain ⟨-, hf⟩ := m_chkE hf
    obtain ⟨v4, ev, hf⟩ := m_bndE hf
    clear ev
    rcases m_ifE hf with ⟨-, hf⟩ | ⟨-, hf⟩
    ·
      exact frs_t hR (fw_sayLine_46 hrec hself8 hf) (fun _ h => h) (fun _ h => h)
    ·
      exact frs_t hR (fw_sayLine_46 hrec hself8 hf) (fun _ h => h) (fun _ h => h)
theorem fw_sayLine_8 {rec : Int32 → Int32 → (Nat → Int32) → (Nat → Nat → Int32) → Option (Int32 × MS)} (hrec : ∀ (z0 : Int32) (z1 : Int32) (I : Nat → Int32) (A : Nat → Nat → Int32) (o : Int32 × MS), rec z0 z1 I A = some o → FrS [3, 25, 26, 27, 28, 29, 33, 36] [4, 24, 30, 31, 32, 34, 35] I A o.2.1 o.2.2) (n : Nat) : ∀ (y0 : Int32) (y1 : Int32) (y2 : Int32) (I : Nat → Int32) (A : Nat → Nat → Int32) (o : Int32 × MS), f_sayLine_8 rec n y0 y1 y2 I A = some o → FrS [3, 25, 26, 27, 28, 29, 33, 36] [4, 24, 30, 31, 32, 34, 35] I A o.2.1 o.2.2 := by
  induction n with
  | zero => intro y0 y1 y2 I A o hf; cases hf
  | succ n ih => intro y0 y1 y2 I A o hf; exact fw_sayLine_8s hrec ih hf
theorem fw_sayLine_0 {o : Int32 × MS} {rec : Int32 → Int32 → (Nat → Int32) → (Nat → Nat → Int32) → Option (Int32 × MS)} {x1 : Int32} {x2 : Int32} {I : Nat → Int32} {A : Nat → Nat → Int32} (hrec : ∀ (z0 : Int32) (z1 : Int32) (I : Nat → Int32) (A : Nat → Nat → Int32) (o : Int32 × MS), rec z0 z1 I A = some o → FrS [3, 25, 26, 27, 28, 29, 33, 36] [4, 24, 30, 31, 32, 34, 35] I A o.2.1 o.2.2) (hf : f_sayLine_0 rec x1 x2 I A = some o) : FrS [3, 25, 26, 27, 28, 29, 33, 36] [4, 24, 30, 31, 32, 34, 35] I A o.2.1 o.2.2 := by
  have hR : FrS [3, 25, 26, 27, 28, 29, 33, 36] [4, 24, 30, 31, 32, 34, 35] I A I A := frs_0
  unfold f_sayLine_0 at hf
  exact frs_t hR (fw_sayLine_8 hrec mFuel _ _ _ _ _ _ hf) (fun _ h => h) (fun _ h => h)
theorem fwr_sayLine (n : Nat) : ∀ (x1 : Int32) (x2 : Int32) (I : Nat → Int32) (A : Nat → Nat → Int32) (o : Int32 × MS), fr_sayLine n x1 x2 I A = some o → FrS [3, 25, 26, 27, 28, 29, 33, 36] [4, 24, 30, 31, 32, 34, 35] I A o.2.1 o.2.2 := by
  induction n with
  | zero => intro x1 x2 I A o hf; cases hf
  | succ n ih => intro x1 x2 I A o hf; exact fw_sayLine_0 ih hf
theorem fw_sayLine {o : Int32 × MS} {x1 : Int32} {x2 : Int32} {I : Nat → Int32} {A : Nat → Nat → Int32} (hf : f_sayLine x1 x2 I A = some o) : FrS [3, 25, 26, 27, 28, 29, 33, 36] [4, 24, 30, 31, 32, 34, 35] I A o.2.1 o.2.2 := fwr_sayLine 8 _ _ I A o hf
theorem fw_write_280s {o : Int32 × MS} {self280 : Int32 → (Nat → Int32) → (Nat → Nat → Int32) → Option (Int32 × MS)} {x1 : Int32} {I : Nat → Int32} {A : Nat → Nat → Int32} (hself280 : ∀ (z0 : Int32) (I : Nat → Int32) (A : Nat → Nat → Int32) (o : Int32 × MS), self280 z0 I A = some o → FrS [0, 3, 25, 26, 27, 28, 29, 33, 36] [4, 24, 30, 31, 32, 34, 35] I A o.2.1 o.2.2) (hf : f_write_280s self280 x1 I A = some o) : FrS [0, 3, 25, 26, 27, 28, 29, 33, 36] [4, 24, 30, 31, 32, 34, 35] I A o.2.1 o.2.2 := by
  have hR : FrS [0, 3, 25, 26, 27, 28, 29, 33, 36] [4, 24, 30, 31, 32, 34, 35] I A I A := frs_0
  unfold f_write_280s at hf
  obtain ⟨-, hf⟩ := m_chkE hf
  obtain ⟨v1, ev, hf⟩ := m_bndE hf
  clear ev
  obtain ⟨or2, ho, hf⟩ := m_clE hf
  replace hR := frs_t hR (fw_resultSize ho) (by decide) (by decide)
  clear ho
  rcases m_ifE hf with ⟨-, hf⟩ | ⟨-, hf⟩
  ·
    obtain ⟨or3, ho, hf⟩ := m_clE hf
    replace hR := frs_t hR (fw_place ho) (by decide) (by decide)
    clear ho
    cases hf
    exact hR
  ·
    obtain ⟨-, hf⟩ := m_chkE hf
    obtain ⟨v4, ev, hf⟩ := m_bndE hf
    clear ev
    obtain ⟨or5, ho, hf⟩ := m_clE hf
    replace hR := frs_t hR (fw_resultSign ho) (by decide) (by decide)
    clear ho
    obtain ⟨or6, ho, hf⟩ := m_clE hf
    replace hR := frs_t hR (fw_ink ho) (by decide) (by decide)
    clear ho
    obtain ⟨v7, ev, hf⟩ := m_bndE hf
    clear ev
    exact frs_t hR (hself280 _ _ _ _ hf) (fun _ h => h) (fun _ h => h)
theorem fw_write_280   (n : Nat) : ∀ (y0 : Int32) (I : Nat → Int32) (A : Nat → Nat → Int32) (o : Int32 × MS), f_write_280  n y0 I A = some o → FrS [0, 3, 25, 26, 27, 28, 29, 33, 36] [4, 24, 30, 31, 32, 34, 35] I A o.2.1 o.2.2 := by
  induction n with
  | zero => intro y0 I A o hf; cases hf
  | succ n ih => intro y0 I A o hf; exact fw_write_280s  ih hf
theorem fw_write_278 {o : Int32 × MS} {I : Nat → Int32} {A : Nat → Nat → Int32}  (hf : f_write_278 I A = some o) : FrS [0, 3, 25, 26, 27, 28, 29, 33, 36] [4, 24, 30, 31, 32, 34, 35] I A o.2.1 o.2.2 := by
  have hR : FrS [0, 3, 25, 26, 27, 28, 29, 33, 36] [4, 24, 30, 31, 32, 34, 35] I A I A := frs_0
  unfold f_write_278 at hf
  exact frs_t hR (fw_write_280  mFuel _ _ _ _ hf) (fun _ h => h) (fun _ h => h)
theorem fw_write_238 {o : Int32 × MS} {I : Nat → Int32} {A : Nat → Nat → Int32}  (hf : f_write_238 I A = some o) : FrS [0, 3, 25, 26, 27, 28, 29, 33, 36] [4, 24, 30, 31, 32, 34, 35] I A o.2.1 o.2.2 := by
  have hR : FrS [0, 3, 25, 26, 27, 28, 29, 33, 36] [4, 24, 30, 31, 32, 34, 35] I A I A := frs_0
  unfold f_write_238 at hf
  obtain ⟨v1, ev, hf⟩ := m_bndE hf
  clear ev
  obtain ⟨-, hf⟩ := m_chkE hf
  obtain ⟨v2, ev, hf⟩ := m_bndE hf
  clear ev
  rcases m_ifE hf with ⟨-, hf⟩ | ⟨-, hf⟩
  ·
    exact frs_t hR (fw_write_278  hf) (fun _ h => h) (fun _ h => h)
  ·
    obtain ⟨v3, ev, hf⟩ := m_bndE hf
    clear ev
    obtain ⟨-, hf⟩ := m_chkE hf
    obtain ⟨v4, ev, hf⟩ := m_bndE hf
    clear ev
    obtain ⟨or5, ho, hf⟩ := m_clE hf
    replace hR := frs_t hR (fw_sayLine ho) (by decide) (by decide)
    clear ho
    obtain ⟨or6, ho, hf⟩ := m_clE hf
    replace hR := frs_t hR (fw_ink ho) (by decide) (by decide)
    clear ho
    exact frs_t hR (fw_write_278  hf) (fun _ h => h) (fun _ h => h)
theorem fw_write_204 {o : Int32 × MS} {I : Nat → Int32} {A : Nat → Nat → Int32}  (hf : f_write_204 I A = some o) : FrS [0, 3, 25, 26, 27, 28, 29, 33, 36] [4, 24, 30, 31, 32, 34, 35] I A o.2.1 o.2.2 := by
  have hR : FrS [0, 3, 25, 26, 27, 28, 29, 33, 36] [4, 24, 30, 31, 32, 34, 35] I A I A := frs_0
  unfold f_write_204 at hf
  obtain ⟨v1, ev, hf⟩ := m_bndE hf
  clear ev
  obtain ⟨-, hf⟩ := m_chkE hf
  obtain ⟨v2, ev, hf⟩ := m_bndE hf
  clear ev
  rcases m_ifE hf with ⟨-, hf⟩ | ⟨-, hf⟩
  ·
    exact frs_t hR (fw_write_238  hf) (fun _ h => h) (fun _ h => h)
  ·
    obtain ⟨v3, ev, hf⟩ := m_bndE hf
    clear ev
    obtain ⟨or4, ho, hf⟩ := m_clE hf
    replace hR := frs_t hR (fw_sayRemark ho) (by decide) (by decide)
    clear ho
    obtain ⟨or5, ho, hf⟩ := m_clE hf
    replace hR := frs_t hR (fw_ink ho) (by decide) (by decide)
    clear ho
    exact frs_t hR (fw_write_238  hf) (fun _ h => h) (fun _ h => h)
theorem fw_write_151 {o : Int32 × MS} {self12 : Int32 → (Nat → Int32) → (Nat → Nat → Int32) → Option (Int32 × MS)} {self94 : Int32 → Int32 → (Nat → Int32) → (Nat → Nat → Int32) → Option (Int32 × MS)} {x1 : Int32} {x2 : Int32} {x3 : Int32} {I : Nat → Int32} {A : Nat → Nat → Int32} (hself12 : ∀ (z0 : Int32) (I : Nat → Int32) (A : Nat → Nat → Int32) (o : Int32 × MS), self12 z0 I A = some o → FrS [0, 3, 25, 26, 27, 28, 29, 33, 36] [4, 24, 30, 31, 32, 34, 35] I A o.2.1 o.2.2) (hself94 : ∀ (z0 : Int32) (z1 : Int32) (I : Nat → Int32) (A : Nat → Nat → Int32) (o : Int32 × MS), self94 z0 z1 I A = some o → FrS [0, 3, 25, 26, 27, 28, 29, 33, 36] [4, 24, 30, 31, 32, 34, 35] I A o.2.1 o.2.2) (hf : f_write_151 self12 self94 x1 x2 x3 I A = some o) : FrS [0, 3, 25, 26, 27, 28, 29, 33, 36] [4, 24, 30, 31, 32, 34, 35] I A o.2.1 o.2.2 := by
  have hR : FrS [0, 3, 25, 26, 27, 28, 29, 33, 36] [4, 24, 30, 31, 32, 34, 35] I A I A := frs_0
  unfold f_write_151 at hf
  obtain ⟨or1, ho, hf⟩ := m_clE hf
  replace hR := frs_t hR (fw_ink ho) (by decide) (by decide)
  clear ho
  obtain ⟨v2, ev, hf⟩ := m_bndE hf
  clear ev
  exact frs_t hR (hself94 _ _ _ _ _ hf) (fun _ h => h) (fun _ h => h)
theorem fw_write_145 {o : Int32 × MS} {self12 : Int32 → (Nat → Int32) → (Nat → Nat → Int32) → Option (Int32 × MS)} {self94 : Int32 → Int32 → (Nat → Int32) → (Nat → Nat → Int32) → Option (Int32 × MS)} {x1 : Int32} {x2 : Int32} {x3 : Int32} {I : Nat → Int32} {A : Nat → Nat → Int32} (hself12 : ∀ (z0 : Int32) (I : Nat → Int32) (A : Nat → Nat → Int32) (o : Int32 × MS), self12 z0 I A = some o → FrS [0, 3, 25, 26, 27, 28, 29, 33, 36] [4, 24, 30, 31, 32, 34, 35] I A o.2.1 o.2.2) (hself94 : ∀ (z0 : Int32) (z1 : Int32) (I : Nat → Int32) (A : Nat → Nat → Int32) (o : Int32 × MS), self94 z0 z1 I A = some o → FrS [0, 3, 25, 26, 27, 28, 29, 33, 36] [4, 24, 30, 31, 32, 34, 35] I A o.2.1 o.2.2) (hf : f_write_145 self12 self94 x1 x2 x3 I A = some o) : FrS [0, 3, 25, 26, 27, 28, 29, 33, 36] [4, 24, 30, 31, 32, 34, 35] I A o.2.1 o.2.2 := by
  have hR : FrS [0, 3, 25, 26, 27, 28, 29, 33, 36] [4, 24, 30, 31, 32, 34, 35] I A I A := frs_0
  unfold f_write_145 at hf
  obtain ⟨or1, ho, hf⟩ := m_clE hf
  replace hR := frs_t hR (fw_ink ho) (by decide) (by decide)
  clear ho
  exact frs_t hR (fw_write_151 hself12 hself94 hf) (fun _ h => h) (fun _ h => h)
theorem fw_write_94s {o : Int32 × MS} {self12 : Int32 → (Nat → Int32) → (Nat → Nat → Int32) → Option (Int32 × MS)} {self94 : Int32 → Int32 → (Nat → Int32) → (Nat → Nat → Int32) → Option (Int32 × MS)} {x1 : Int32} {x2 : Int32} {I : Nat → Int32} {A : Nat → Nat → Int32} (hself12 : ∀ (z0 : Int32) (I : Nat → Int32) (A : Nat → Nat → Int32) (o : Int32 × MS), self12 z0 I A = some o → FrS [0, 3, 25, 26, 27, 28, 29, 33, 36] [4, 24, 30, 31, 32, 34, 35] I A o.2.1 o.2.2) (hself94 : ∀ (z0 : Int32) (z1 : Int32) (I : Nat → Int32) (A : Nat → Nat → Int32) (o : Int32 × MS), self94 z0 z1 I A = some o → FrS [0, 3, 25, 26, 27, 28, 29, 33, 36] [4, 24, 30, 31, 32, 34, 35] I A o.2.1 o.2.2) (hf : f_write_94s self12 self94 x1 x2 I A = some o) : FrS [0, 3, 25, 26, 27, 28, 29, 33, 36] [4, 24, 30, 31, 32, 34, 35] I A o.2.1 o.2.2 := by
  have hR : FrS [0, 3, 25, 26, 27, 28, 29, 33, 36] [4, 24, 30, 31, 32, 34, 35] I A I A := frs_0
  unfold f_write_94s at hf
  obtain ⟨v1, ev, hf⟩ := m_bndE hf
  clear ev
  obtain ⟨v2, ev, hf⟩ := m_bndE hf
  clear ev
  obtain ⟨-, hf⟩ := m_chkE hf
  obtain ⟨v3, ev, hf⟩ := m_bndE hf
  clear ev
  rcases m_ifE hf with ⟨-, hf⟩ | ⟨-, hf⟩
  ·
    obtain ⟨or4, ho, hf⟩ := m_clE hf
    replace hR := frs_t hR (fw_ink ho) (by decide) (by decide)
    clear ho
    obtain ⟨or5, ho, hf⟩ := m_clE hf
    replace hR := frs_t hR (fw_ink ho) (by decide) (by decide)
    clear ho
    obtain ⟨or6, ho, hf⟩ := m_clE hf
    replace hR := frs_t hR (fw_ink ho) (by decide) (by decide)
    clear ho
    obtain ⟨v7, ev, hf⟩ := m_bndE hf
    clear ev
    exact frs_t hR (hself12 _ _ _ _ hf) (fun _ h => h) (fun _ h => h)
  ·
    obtain ⟨v8, ev, hf⟩ := m_bndE hf
    clear ev
    obtain ⟨v9, ev, hf⟩ := m_bndE hf
    clear ev
    obtain ⟨v10, ev, hf⟩ := m_bndE hf
    clear ev
    obtain ⟨v11, ev, hf⟩ := m_bndE hf
    clear ev
    obtain ⟨-, hf⟩ := m_chkE hf
    obtain ⟨v12, ev, hf⟩ := m_bndE hf
    clear ev
    rcases m_ifE hf with ⟨-, hf⟩ | ⟨-, hf⟩
    ·
      exact frs_t hR (fw_write_145 hself12 hself94 hf) (fun _ h => h) (fun _ h => h)
    ·
      rcases m_ifE hf with ⟨-, hf⟩ | ⟨-, hf⟩
      ·
        exact frs_t hR (fw_write_145 hself12 hself94 hf) (fun _ h => h) (fun _ h => h)
      ·
        exact frs_t hR (fw_write_151 hself12 hself94 hf) (fun _ h => h) (fun _ h => h)
theorem fw_write_94 {self12 : Int32 → (Nat → Int32) → (Nat → Nat → Int32) → Option (Int32 × MS)} (hself12 : ∀ (z0 : Int32) (I : Nat → Int32) (A : Nat → Nat → Int32) (o : Int32 × MS), self12 z0 I A = some o → FrS [0, 3, 25, 26, 27, 28, 29, 33, 36] [4, 24, 30, 31, 32, 34, 35] I A o.2.1 o.2.2) (n : Nat) : ∀ (y0 : Int32) (y1 : Int32) (I : Nat → Int32) (A : Nat → Nat → Int32) (o : Int32 × MS), f_write_94 self12 n y0 y1 I A = some o → FrS [0, 3, 25, 26, 27, 28, 29, 33, 36] [4, 24, 30, 31, 32, 34, 35] I A o.2.1 o.2.2 := by
  induction n with
  | zero => intro y0 y1 I A o hf; cases hf
  | succ n ih => intro y0 y1 I A o hf; exact fw_write_94s hself12 ih hf
theorem fw_write_33s {o : Int32 × MS} {self12 : Int32 → (Nat → Int32) → (Nat → Nat → Int32) → Option (Int32 × MS)} {self33 : Int32 → Int32 → (Nat → Int32) → (Nat → Nat → Int32) → Option (Int32 × MS)} {x1 : Int32} {x2 : Int32} {I : Nat → Int32} {A : Nat → Nat → Int32} (hself12 : ∀ (z0 : Int32) (I : Nat → Int32) (A : Nat → Nat → Int32) (o : Int32 × MS), self12 z0 I A = some o → FrS [0, 3, 25, 26, 27, 28, 29, 33, 36] [4, 24, 30, 31, 32, 34, 35] I A o.2.1 o.2.2) (hself33 : ∀ (z0 : Int32) (z1 : Int32) (I : Nat → Int32) (A : Nat → Nat → Int32) (o : Int32 × MS), self33 z0 z1 I A = some o → FrS [0, 3, 25, 26, 27, 28, 29, 33, 36] [4, 24, 30, 31, 32, 34, 35] I A o.2.1 o.2.2) (hf : f_write_33s self12 self33 x1 x2 I A = some o) : FrS [0, 3, 25, 26, 27, 28, 29, 33, 36] [4, 24, 30, 31, 32, 34, 35] I A o.2.1 o.2.2 := by
  have hR : FrS [0, 3, 25, 26, 27, 28, 29, 33, 36] [4, 24, 30, 31, 32, 34, 35] I A I A := frs_0
  unfold f_write_33s at hf
  obtain ⟨v1, ev, hf⟩ := m_bndE hf
  clear ev
  obtain ⟨v2, ev, hf⟩ := m_bndE hf
  clear ev
  obtain ⟨-, hf⟩ := m_chkE hf
  obtain ⟨v3, ev, hf⟩ := m_bndE hf
  clear ev
  rcases m_ifE hf with ⟨-, hf⟩ | ⟨-, hf⟩
  ·
    obtain ⟨or4, ho, hf⟩ := m_clE hf
    replace hR := frs_t hR (fw_ink ho) (by decide) (by decide)
    clear ho
    obtain ⟨or5, ho, hf⟩ := m_clE hf
    replace hR := frs_t hR (fw_ink ho) (by decide) (by decide)
    clear ho
    exact frs_t hR (fw_write_94 hself12 mFuel _ _ _ _ _ hf) (fun _ h => h) (fun _ h => h)
  ·
    obtain ⟨v6, ev, hf⟩ := m_bndE hf
    clear ev
    obtain ⟨v7, ev, hf⟩ := m_bndE hf
    clear ev
    obtain ⟨v8, ev, hf⟩ := m_bndE hf
    clear ev
    obtain ⟨v9, ev, hf⟩ := m_bndE hf
    clear ev
    obtain ⟨-, hf⟩ := m_chkE hf
    obtain ⟨v10, ev, hf⟩ := m_bndE hf
    clear ev
    obtain ⟨or11, ho, hf⟩ := m_clE hf
    replace hR := frs_t hR (fw_ink ho) (by decide) (by decide)
    clear ho
    obtain ⟨v12, ev, hf⟩ := m_bndE hf
    clear ev
    exact frs_t hR (hself33 _ _ _ _ _ hf) (fun _ h => h) (fun _ h => h)
theorem fw_write_33 {self12 : Int32 → (Nat → Int32) → (Nat → Nat → Int32) → Option (Int32 × MS)} (hself12 : ∀ (z0 : Int32) (I : Nat → Int32) (A : Nat → Nat → Int32) (o : Int32 × MS), self12 z0 I A = some o → FrS [0, 3, 25, 26, 27, 28, 29, 33, 36] [4, 24, 30, 31, 32, 34, 35] I A o.2.1 o.2.2) (n : Nat) : ∀ (y0 : Int32) (y1 : Int32) (I : Nat → Int32) (A : Nat → Nat → Int32) (o : Int32 × MS), f_write_33 self12 n y0 y1 I A = some o → FrS [0, 3, 25, 26, 27, 28, 29, 33, 36] [4, 24, 30, 31, 32, 34, 35] I A o.2.1 o.2.2 := by
  induction n with
  | zero => intro y0 y1 I A o hf; cases hf
  | succ n ih => intro y0 y1 I A o hf; exact fw_write_33s hself12 ih hf
theorem fw_write_12s {o : Int32 × MS} {self12 : Int32 → (Nat → Int32) → (Nat → Nat → Int32) → Option (Int32 × MS)} {x1 : Int32} {I : Nat → Int32} {A : Nat → Nat → Int32} (hself12 : ∀ (z0 : Int32) (I : Nat → Int32) (A : Nat → Nat → Int32) (o : Int32 × MS), self12 z0 I A = some o → FrS [0, 3, 25, 26, 27, 28, 29, 33, 36] [4, 24, 30, 31, 32, 34, 35] I A o.2.1 o.2.2) (hf : f_write_12s self12 x1 I A = some o) : FrS [0, 3, 25, 26, 27, 28, 29, 33, 36] [4, 24, 30, 31, 32, 34, 35] I A o.2.1 o.2.2 := by
  have hR : FrS [0, 3, 25, 26, 27, 28, 29, 33, 36] [4, 24, 30, 31, 32, 34, 35] I A I A := frs_0
  unfold f_write_12s at hf
  obtain ⟨-, hf⟩ := m_chkE hf
  obtain ⟨v1, ev, hf⟩ := m_bndE hf
  clear ev
  rcases m_ifE hf with ⟨-, hf⟩ | ⟨-, hf⟩
  ·
    obtain ⟨-, hf⟩ := m_chkE hf
    obtain ⟨v2, ev, hf⟩ := m_bndE hf
    clear ev
    rcases m_ifE hf with ⟨-, hf⟩ | ⟨-, hf⟩
    ·
      exact frs_t hR (fw_write_204  hf) (fun _ h => h) (fun _ h => h)
    ·
      obtain ⟨or3, ho, hf⟩ := m_clE hf
      replace hR := frs_t hR (fw_ink ho) (by decide) (by decide)
      clear ho
      exact frs_t hR (fw_write_204  hf) (fun _ h => h) (fun _ h => h)
  ·
    obtain ⟨or4, ho, hf⟩ := m_clE hf
    replace hR := frs_t hR (fw_ink ho) (by decide) (by decide)
    clear ho
    exact frs_t hR (fw_write_33 hself12 mFuel _ _ _ _ _ hf) (fun _ h => h) (fun _ h => h)
theorem fw_write_12   (n : Nat) : ∀ (y0 : Int32) (I : Nat → Int32) (A : Nat → Nat → Int32) (o : Int32 × MS), f_write_12  n y0 I A = some o → FrS [0, 3, 25, 26, 27, 28, 29, 33, 36] [4, 24, 30, 31, 32, 34, 35] I A o.2.1 o.2.2 := by
  induction n with
  | zero => intro y0 I A o hf; cases hf
  | succ n ih => intro y0 I A o hf; exact fw_write_12s  ih hf
theorem fw_write_0 {o : Int32 × MS} {I : Nat → Int32} {A : Nat → Nat → Int32}  (hf : f_write_0 I A = some o) : FrS [0, 3, 25, 26, 27, 28, 29, 33, 36] [4, 24, 30, 31, 32, 34, 35] I A o.2.1 o.2.2 := by
  have hR : FrS [0, 3, 25, 26, 27, 28, 29, 33, 36] [4, 24, 30, 31, 32, 34, 35] I A I A := frs_0
  unfold f_write_0 at hf
  obtain ⟨I1, ev, hf⟩ := m_bndE hf
  replace hR := frs_I hR (by decide) ev
  clear ev
  obtain ⟨I2, ev, hf⟩ := m_bndE hf
  replace hR := frs_I hR (by decide) ev
  clear ev
  exact frs_t hR (fw_write_12  mFuel _ _ _ _ hf) (fun _ h => h) (fun _ h => h)
theorem fw_write {o : Int32 × MS}  {I : Nat → Int32} {A : Nat → Nat → Int32} (hf : f_write  I A = some o) : FrS [0, 3, 25, 26, 27, 28, 29, 33, 36] [4, 24, 30, 31, 32, 34, 35] I A o.2.1 o.2.2 := fw_write_0  hf
theorem fw_isLegal_31 {o : Int32 × MS} {self4 : Int32 → Int32 → Int32 → (Nat → Int32) → (Nat → Nat → Int32) → Option (Int32 × MS)} {x1 : Int32} {x3 : Int32} {t0 : Int32} {I : Nat → Int32} {A : Nat → Nat → Int32} (hself4 : ∀ (z0 : Int32) (z1 : Int32) (z2 : Int32) (I : Nat → Int32) (A : Nat → Nat → Int32) (o : Int32 × MS), self4 z0 z1 z2 I A = some o → FrS [] [] I A o.2.1 o.2.2) (hf : f_isLegal_31 self4 x1 x3 t0 I A = some o) : FrS [] [] I A o.2.1 o.2.2 := by
  have hR : FrS [] [] I A I A := frs_0
  unfold f_isLegal_31 at hf
  obtain ⟨v1, ev, hf⟩ := m_bndE hf
  clear ev
  exact frs_t hR (hself4 _ _ _ _ _ _ hf) (fun _ h => h) (fun _ h => h)
theorem fw_isLegal_26 {o : Int32 × MS} {self4 : Int32 → Int32 → Int32 → (Nat → Int32) → (Nat → Nat → Int32) → Option (Int32 × MS)} {x1 : Int32} {x3 : Int32} {I : Nat → Int32} {A : Nat → Nat → Int32} (hself4 : ∀ (z0 : Int32) (z1 : Int32) (z2 : Int32) (I : Nat → Int32) (A : Nat → Nat → Int32) (o : Int32 × MS), self4 z0 z1 z2 I A = some o → FrS [] [] I A o.2.1 o.2.2) (hf : f_isLegal_26 self4 x1 x3 I A = some o) : FrS [] [] I A o.2.1 o.2.2 := by
  have hR : FrS [] [] I A I A := frs_0
  unfold f_isLegal_26 at hf
  exact frs_t hR (fw_isLegal_31 hself4 hf) (fun _ h => h) (fun _ h => h)
theorem fw_isLegal_4s {o : Int32 × MS} {self4 : Int32 → Int32 → Int32 → (Nat → Int32) → (Nat → Nat → Int32) → Option (Int32 × MS)} {x1 : Int32} {x2 : Int32} {x3 : Int32} {I : Nat → Int32} {A : Nat → Nat → Int32} (hself4 : ∀ (z0 : Int32) (z1 : Int32) (z2 : Int32) (I : Nat → Int32) (A : Nat → Nat → Int32) (o : Int32 × MS), self4 z0 z1 z2 I A = some o → FrS [] [] I A o.2.1 o.2.2) (hf : f_isLegal_4s self4 x1 x2 x3 I A = some o) : FrS [] [] I A o.2.1 o.2.2 := by
  have hR : FrS [] [] I A I A := frs_0
  unfold f_isLegal_4s at hf
  rcases m_ifE hf with ⟨-, hf⟩ | ⟨-, hf⟩
  ·
    obtain ⟨-, hf⟩ := m_chkE hf
    cases hf
    exact hR
  ·
    rcases m_ifE hf with ⟨-, hf⟩ | ⟨-, hf⟩
    ·
      obtain ⟨-, hf⟩ := m_chkE hf
      obtain ⟨v1, ev, hf⟩ := m_bndE hf
      clear ev
      rcases m_ifE hf with ⟨-, hf⟩ | ⟨-, hf⟩
      ·
        exact frs_t hR (fw_isLegal_26 hself4 hf) (fun _ h => h) (fun _ h => h)
      ·
        exact frs_t hR (fw_isLegal_31 hself4 hf) (fun _ h => h) (fun _ h => h)
    ·
      exact frs_t hR (fw_isLegal_26 hself4 hf) (fun _ h => h) (fun _ h => h)
theorem fw_isLegal_4   (n : Nat) : ∀ (y0 : Int32) (y1 : Int32) (y2 : Int32) (I : Nat → Int32) (A : Nat → Nat → Int32) (o : Int32 × MS), f_isLegal_4  n y0 y1 y2 I A = some o → FrS [] [] I A o.2.1 o.2.2 := by
  induction n with
  | zero => intro y0 y1 y2 I A o hf; cases hf
  | succ n ih => intro y0 y1 y2 I A o hf; exact fw_isLegal_4s  ih hf
theorem fw_isLegal_0 {o : Int32 × MS} {x1 : Int32} {I : Nat → Int32} {A : Nat → Nat → Int32}  (hf : f_isLegal_0 x1 I A = some o) : FrS [] [] I A o.2.1 o.2.2 := by
  have hR : FrS [] [] I A I A := frs_0
  unfold f_isLegal_0 at hf
  exact frs_t hR (fw_isLegal_4  mFuel _ _ _ _ _ _ hf) (fun _ h => h) (fun _ h => h)
theorem fw_isLegal {o : Int32 × MS} {x1 : Int32} {I : Nat → Int32} {A : Nat → Nat → Int32} (hf : f_isLegal x1 I A = some o) : FrS [] [] I A o.2.1 o.2.2 := fw_isLegal_0  hf
theorem fw_signs_33s {o : Int32 × MS} {self33 : Int32 → (Nat → Int32) → (Nat → Nat → Int32) → Option (Int32 × MS)} {x2 : Int32} {I : Nat → Int32} {A : Nat → Nat → Int32} (hself33 : ∀ (z0 : Int32) (I : Nat → Int32) (A : Nat → Nat → Int32) (o : Int32 × MS), self33 z0 I A = some o → FrS [0, 3, 25, 26, 27, 28, 29, 36] [4, 24, 30, 31, 35] I A o.2.1 o.2.2) (hf : f_signs_33s self33 x2 I A = some o) : FrS [0, 3, 25, 26, 27, 28, 29, 36] [4, 24, 30, 31, 35] I A o.2.1 o.2.2 := by
  have hR : FrS [0, 3, 25, 26, 27, 28, 29, 36] [4, 24, 30, 31, 35] I A I A := frs_0
  unfold f_signs_33s at hf
  rcases m_ifE hf with ⟨-, hf⟩ | ⟨-, hf⟩
  ·
    obtain ⟨I1, ev, hf⟩ := m_bndE hf
    replace hR := frs_I hR (by decide) ev
    clear ev
    cases hf
    exact hR
  ·
    obtain ⟨-, hf⟩ := m_chkE hf
    obtain ⟨v2, ev, hf⟩ := m_bndE hf
    clear ev
    obtain ⟨-, hf⟩ := m_chkE hf
    obtain ⟨A3, ev, hf⟩ := m_bndE hf
    replace hR := frs_A hR (by decide) ev
    clear ev
    obtain ⟨v4, ev, hf⟩ := m_bndE hf
    clear ev
    exact frs_t hR (hself33 _ _ _ _ hf) (fun _ h => h) (fun _ h => h)
theorem fw_signs_33   (n : Nat) : ∀ (y0 : Int32) (I : Nat → Int32) (A : Nat → Nat → Int32) (o : Int32 × MS), f_signs_33  n y0 I A = some o → FrS [0, 3, 25, 26, 27, 28, 29, 36] [4, 24, 30, 31, 35] I A o.2.1 o.2.2 := by
  induction n with
  | zero => intro y0 I A o hf; cases hf
  | succ n ih => intro y0 I A o hf; exact fw_signs_33s  ih hf
theorem fw_signs_14 {o : Int32 × MS} {x1 : Int32} {t0 : Int32} {I : Nat → Int32} {A : Nat → Nat → Int32}  (hf : f_signs_14 x1 t0 I A = some o) : FrS [0, 3, 25, 26, 27, 28, 29, 36] [4, 24, 30, 31, 35] I A o.2.1 o.2.2 := by
  have hR : FrS [0, 3, 25, 26, 27, 28, 29, 36] [4, 24, 30, 31, 35] I A I A := frs_0
  unfold f_signs_14 at hf
  obtain ⟨I1, ev, hf⟩ := m_bndE hf
  replace hR := frs_I hR (by decide) ev
  clear ev
  rcases m_ifE hf with ⟨-, hf⟩ | ⟨-, hf⟩
  ·
    obtain ⟨or2, ho, hf⟩ := m_clE hf
    replace hR := frs_t hR (fw_spellWhole ho) (by decide) (by decide)
    clear ho
    exact frs_t hR (fw_signs_33  mFuel _ _ _ _ hf) (fun _ h => h) (fun _ h => h)
  ·
    cases hf
    exact hR
theorem fw_signs_0 {o : Int32 × MS} {x1 : Int32} {I : Nat → Int32} {A : Nat → Nat → Int32}  (hf : f_signs_0 x1 I A = some o) : FrS [0, 3, 25, 26, 27, 28, 29, 36] [4, 24, 30, 31, 35] I A o.2.1 o.2.2 := by
  have hR : FrS [0, 3, 25, 26, 27, 28, 29, 36] [4, 24, 30, 31, 35] I A I A := frs_0
  unfold f_signs_0 at hf
  obtain ⟨or1, ho, hf⟩ := m_clE hf
  replace hR := frs_t hR (fw_isLegal ho) (by decide) (by decide)
  clear ho
  rcases m_ifE hf with ⟨-, hf⟩ | ⟨-, hf⟩
  ·
    exact frs_t hR (fw_signs_14  hf) (fun _ h => h) (fun _ h => h)
  ·
    exact frs_t hR (fw_signs_14  hf) (fun _ h => h) (fun _ h => h)
theorem fw_signs {o : Int32 × MS} {x1 : Int32} {I : Nat → Int32} {A : Nat → Nat → Int32} (hf : f_signs x1 I A = some o) : FrS [0, 3, 25, 26, 27, 28, 29, 36] [4, 24, 30, 31, 35] I A o.2.1 o.2.2 := fw_signs_0  hf
theorem fw_out_27 {o : Int32 × MS} {t0 : Int32} {I : Nat → Int32} {A : Nat → Nat → Int32}  (hf : f_out_27 t0 I A = some o) : FrS [0] [] I A o.2.1 o.2.2 := by
  have hR : FrS [0] [] I A I A := frs_0
  unfold f_out_27 at hf
  cases hf
  exact hR
theorem fw_out_17 {o : Int32 × MS} {I : Nat → Int32} {A : Nat → Nat → Int32}  (hf : f_out_17 I A = some o) : FrS [0] [] I A o.2.1 o.2.2 := by
  have hR : FrS [0] [] I A I A := frs_0
  unfold f_out_17 at hf
  exact frs_t hR (fw_out_27  hf) (fun _ h => h) (fun _ h => h)
theorem fw_out_0 {o : Int32 × MS} {x1 : Int32} {I : Nat → Int32} {A : Nat → Nat → Int32}  (hf : f_out_0 x1 I A = some o) : FrS [0] [] I A o.2.1 o.2.2 := by
  have hR : FrS [0] [] I A I A := frs_0
  unfold f_out_0 at hf
  obtain ⟨I1, ev, hf⟩ := m_bndE hf
  replace hR := frs_I hR (by decide) ev
  clear ev
  rcases m_ifE hf with ⟨-, hf⟩ | ⟨-, hf⟩
  ·
    exact frs_t hR (fw_out_17  hf) (fun _ h => h) (fun _ h => h)
  ·
    rcases m_ifE hf with ⟨-, hf⟩ | ⟨-, hf⟩
    ·
      obtain ⟨-, hf⟩ := m_chkE hf
      obtain ⟨v2, ev, hf⟩ := m_bndE hf
      clear ev
      exact frs_t hR (fw_out_27  hf) (fun _ h => h) (fun _ h => h)
    ·
      exact frs_t hR (fw_out_17  hf) (fun _ h => h) (fun _ h => h)
theorem fw_out {o : Int32 × MS} {x1 : Int32} {I : Nat → Int32} {A : Nat → Nat → Int32} (hf : f_out x1 I A = some o) : FrS [0] [] I A o.2.1 o.2.2 := fw_out_0  hf
theorem fw_isNode_22 {o : Int32 × MS} {t0 : Int32} {I : Nat → Int32} {A : Nat → Nat → Int32}  (hf : f_isNode_22 t0 I A = some o) : FrS [] [] I A o.2.1 o.2.2 := by
  have hR : FrS [] [] I A I A := frs_0
  unfold f_isNode_22 at hf
  obtain ⟨-, hf⟩ := m_chkE hf
  cases hf
  exact hR
theorem fw_isNode_21 {o : Int32 × MS} {I : Nat → Int32} {A : Nat → Nat → Int32}  (hf : f_isNode_21 I A = some o) : FrS [] [] I A o.2.1 o.2.2 := by
  have hR : FrS [] [] I A I A := frs_0
  unfold f_isNode_21 at hf
  exact frs_t hR (fw_isNode_22  hf) (fun _ h => h) (fun _ h => h)
theorem fw_isNode_0 {o : Int32 × MS} {x1 : Int32} {I : Nat → Int32} {A : Nat → Nat → Int32}  (hf : f_isNode_0 x1 I A = some o) : FrS [] [] I A o.2.1 o.2.2 := by
  have hR : FrS [] [] I A I A := frs_0
  unfold f_isNode_0 at hf
  rcases m_ifE hf with ⟨-, hf⟩ | ⟨-, hf⟩
  ·
    exact frs_t hR (fw_isNode_21  hf) (fun _ h => h) (fun _ h => h)
  ·
    obtain ⟨-, hf⟩ := m_chkE hf
    obtain ⟨v1, ev, hf⟩ := m_bndE hf
    clear ev
    rcases m_ifE hf with ⟨-, hf⟩ | ⟨-, hf⟩
    ·
      exact frs_t hR (fw_isNode_21  hf) (fun _ h => h) (fun _ h => h)
    ·
      exact frs_t hR (fw_isNode_22  hf) (fun _ h => h) (fun _ h => h)
theorem fw_isNode {o : Int32 × MS} {x1 : Int32} {I : Nat → Int32} {A : Nat → Nat → Int32} (hf : f_isNode x1 I A = some o) : FrS [] [] I A o.2.1 o.2.2 := fw_isNode_0  hf
theorem fw_nodes_0 {o : Int32 × MS} {I : Nat → Int32} {A : Nat → Nat → Int32}  (hf : f_nodes_0 I A = some o) : FrS [0] [] I A o.2.1 o.2.2 := by
  have hR : FrS [0] [] I A I A := frs_0
  unfold f_nodes_0 at hf
  obtain ⟨I1, ev, hf⟩ := m_bndE hf
  replace hR := frs_I hR (by decide) ev
  clear ev
  obtain ⟨-, hf⟩ := m_chkE hf
  obtain ⟨v2, ev, hf⟩ := m_bndE hf
  clear ev
  cases hf
  exact hR
theorem fw_nodes {o : Int32 × MS}  {I : Nat → Int32} {A : Nat → Nat → Int32} (hf : f_nodes  I A = some o) : FrS [0] [] I A o.2.1 o.2.2 := fw_nodes_0  hf
theorem fw_node_23 {o : Int32 × MS} {x1 : Int32} {x2 : Int32} {t0 : Int32} {I : Nat → Int32} {A : Nat → Nat → Int32}  (hf : f_node_23 x1 x2 t0 I A = some o) : FrS [0] [] I A o.2.1 o.2.2 := by
  have hR : FrS [0] [] I A I A := frs_0
  unfold f_node_23 at hf
  obtain ⟨I1, ev, hf⟩ := m_bndE hf
  replace hR := frs_I hR (by decide) ev
  clear ev
  rcases m_ifE hf with ⟨-, hf⟩ | ⟨-, hf⟩
  ·
    obtain ⟨v2, ev, hf⟩ := m_bndE hf
    clear ev
    obtain ⟨v3, ev, hf⟩ := m_bndE hf
    clear ev
    rcases m_ifE hf with ⟨-, hf⟩ | ⟨-, hf⟩
    ·
      obtain ⟨-, hf⟩ := m_chkE hf
      obtain ⟨v4, ev, hf⟩ := m_bndE hf
      clear ev
      cases hf
      exact hR
    ·
      rcases m_ifE hf with ⟨-, hf⟩ | ⟨-, hf⟩
      ·
        obtain ⟨-, hf⟩ := m_chkE hf
        obtain ⟨v5, ev, hf⟩ := m_bndE hf
        clear ev
        cases hf
        exact hR
      ·
        rcases m_ifE hf with ⟨-, hf⟩ | ⟨-, hf⟩
        ·
          obtain ⟨-, hf⟩ := m_chkE hf
          obtain ⟨v6, ev, hf⟩ := m_bndE hf
          clear ev
          cases hf
          exact hR
        ·
          rcases m_ifE hf with ⟨-, hf⟩ | ⟨-, hf⟩
          ·
            obtain ⟨-, hf⟩ := m_chkE hf
            obtain ⟨v7, ev, hf⟩ := m_bndE hf
            clear ev
            cases hf
            exact hR
          ·
            rcases m_ifE hf with ⟨-, hf⟩ | ⟨-, hf⟩
            ·
              obtain ⟨-, hf⟩ := m_chkE hf
              obtain ⟨v8, ev, hf⟩ := m_bndE hf
              clear ev
              cases hf
              exact hR
            ·
              obtain ⟨-, hf⟩ := m_chkE hf
              obtain ⟨v9, ev, hf⟩ := m_bndE hf
              clear ev
              cases hf
              exact hR
  ·
    cases hf
    exact hR
theorem fw_node_18 {o : Int32 × MS} {x1 : Int32} {x2 : Int32} {I : Nat → Int32} {A : Nat → Nat → Int32}  (hf : f_node_18 x1 x2 I A = some o) : FrS [0] [] I A o.2.1 o.2.2 := by
  have hR : FrS [0] [] I A I A := frs_0
  unfold f_node_18 at hf
  exact frs_t hR (fw_node_23  hf) (fun _ h => h) (fun _ h => h)
theorem fw_node_0 {o : Int32 × MS} {x1 : Int32} {x2 : Int32} {I : Nat → Int32} {A : Nat → Nat → Int32}  (hf : f_node_0 x1 x2 I A = some o) : FrS [0] [] I A o.2.1 o.2.2 := by
  have hR : FrS [0] [] I A I A := frs_0
  unfold f_node_0 at hf
  obtain ⟨or1, ho, hf⟩ := m_clE hf
  replace hR := frs_t hR (fw_isNode ho) (by decide) (by decide)
  clear ho
  rcases m_ifE hf with ⟨-, hf⟩ | ⟨-, hf⟩
  ·
    exact frs_t hR (fw_node_18  hf) (fun _ h => h) (fun _ h => h)
  ·
    rcases m_ifE hf with ⟨-, hf⟩ | ⟨-, hf⟩
    ·
      exact frs_t hR (fw_node_18  hf) (fun _ h => h) (fun _ h => h)
    ·
      rcases m_ifE hf with ⟨-, hf⟩ | ⟨-, hf⟩
      ·
        exact frs_t hR (fw_node_23  hf) (fun _ h => h) (fun _ h => h)
      ·
        exact frs_t hR (fw_node_18  hf) (fun _ h => h) (fun _ h => h)
theorem fw_node {o : Int32 × MS} {x1 : Int32} {x2 : Int32} {I : Nat → Int32} {A : Nat → Nat → Int32} (hf : f_node x1 x2 I A = some o) : FrS [0] [] I A o.2.1 o.2.2 := fw_node_0  hf
theorem fw_mark_70 {o : Int32 × MS} {t0 : Int32} {I : Nat → Int32} {A : Nat → Nat → Int32}  (hf : f_mark_70 t0 I A = some o) : FrS [0] [] I A o.2.1 o.2.2 := by
  have hR : FrS [0] [] I A I A := frs_0
  unfold f_mark_70 at hf
  cases hf
  exact hR
theorem fw_mark_37 {o : Int32 × MS} {x1 : Int32} {x2 : Int32} {t0 : Int32} {I : Nat → Int32} {A : Nat → Nat → Int32}  (hf : f_mark_37 x1 x2 t0 I A = some o) : FrS [0] [] I A o.2.1 o.2.2 := by
  have hR : FrS [0] [] I A I A := frs_0
  unfold f_mark_37 at hf
  obtain ⟨I1, ev, hf⟩ := m_bndE hf
  replace hR := frs_I hR (by decide) ev
  clear ev
  rcases m_ifE hf with ⟨-, hf⟩ | ⟨-, hf⟩
  ·
    obtain ⟨v2, ev, hf⟩ := m_bndE hf
    clear ev
    obtain ⟨v3, ev, hf⟩ := m_bndE hf
    clear ev
    obtain ⟨v4, ev, hf⟩ := m_bndE hf
    clear ev
    obtain ⟨v5, ev, hf⟩ := m_bndE hf
    clear ev
    obtain ⟨-, hf⟩ := m_chkE hf
    obtain ⟨v6, ev, hf⟩ := m_bndE hf
    clear ev
    exact frs_t hR (fw_mark_70  hf) (fun _ h => h) (fun _ h => h)
  ·
    exact frs_t hR (fw_mark_70  hf) (fun _ h => h) (fun _ h => h)
theorem fw_mark_32 {o : Int32 × MS} {x1 : Int32} {x2 : Int32} {I : Nat → Int32} {A : Nat → Nat → Int32}  (hf : f_mark_32 x1 x2 I A = some o) : FrS [0] [] I A o.2.1 o.2.2 := by
  have hR : FrS [0] [] I A I A := frs_0
  unfold f_mark_32 at hf
  exact frs_t hR (fw_mark_37  hf) (fun _ h => h) (fun _ h => h)
theorem fw_mark_0 {o : Int32 × MS} {x1 : Int32} {x2 : Int32} {I : Nat → Int32} {A : Nat → Nat → Int32}  (hf : f_mark_0 x1 x2 I A = some o) : FrS [0] [] I A o.2.1 o.2.2 := by
  have hR : FrS [0] [] I A I A := frs_0
  unfold f_mark_0 at hf
  obtain ⟨or1, ho, hf⟩ := m_clE hf
  replace hR := frs_t hR (fw_isNode ho) (by decide) (by decide)
  clear ho
  rcases m_ifE hf with ⟨-, hf⟩ | ⟨-, hf⟩
  ·
    exact frs_t hR (fw_mark_32  hf) (fun _ h => h) (fun _ h => h)
  ·
    rcases m_ifE hf with ⟨-, hf⟩ | ⟨-, hf⟩
    ·
      exact frs_t hR (fw_mark_32  hf) (fun _ h => h) (fun _ h => h)
    ·
      obtain ⟨v2, ev, hf⟩ := m_bndE hf
      clear ev
      obtain ⟨v3, ev, hf⟩ := m_bndE hf
      clear ev
      obtain ⟨-, hf⟩ := m_chkE hf
      obtain ⟨v4, ev, hf⟩ := m_bndE hf
      clear ev
      rcases m_ifE hf with ⟨-, hf⟩ | ⟨-, hf⟩
      ·
        exact frs_t hR (fw_mark_37  hf) (fun _ h => h) (fun _ h => h)
      ·
        exact frs_t hR (fw_mark_32  hf) (fun _ h => h) (fun _ h => h)
theorem fw_mark {o : Int32 × MS} {x1 : Int32} {x2 : Int32} {I : Nat → Int32} {A : Nat → Nat → Int32} (hf : f_mark x1 x2 I A = some o) : FrS [0] [] I A o.2.1 o.2.2 := fw_mark_0  hf
theorem fw_remark_72 {o : Int32 × MS} {t0 : Int32} {I : Nat → Int32} {A : Nat → Nat → Int32}  (hf : f_remark_72 t0 I A = some o) : FrS [0] [] I A o.2.1 o.2.2 := by
  have hR : FrS [0] [] I A I A := frs_0
  unfold f_remark_72 at hf
  cases hf
  exact hR
theorem fw_remark_37 {o : Int32 × MS} {x1 : Int32} {x2 : Int32} {t0 : Int32} {I : Nat → Int32} {A : Nat → Nat → Int32}  (hf : f_remark_37 x1 x2 t0 I A = some o) : FrS [0] [] I A o.2.1 o.2.2 := by
  have hR : FrS [0] [] I A I A := frs_0
  unfold f_remark_37 at hf
  obtain ⟨I1, ev, hf⟩ := m_bndE hf
  replace hR := frs_I hR (by decide) ev
  clear ev
  rcases m_ifE hf with ⟨-, hf⟩ | ⟨-, hf⟩
  ·
    obtain ⟨v2, ev, hf⟩ := m_bndE hf
    clear ev
    obtain ⟨v3, ev, hf⟩ := m_bndE hf
    clear ev
    obtain ⟨v4, ev, hf⟩ := m_bndE hf
    clear ev
    obtain ⟨v5, ev, hf⟩ := m_bndE hf
    clear ev
    obtain ⟨-, hf⟩ := m_chkE hf
    obtain ⟨v6, ev, hf⟩ := m_bndE hf
    clear ev
    exact frs_t hR (fw_remark_72  hf) (fun _ h => h) (fun _ h => h)
  ·
    exact frs_t hR (fw_remark_72  hf) (fun _ h => h) (fun _ h => h)
theorem fw_remark_32 {o : Int32 × MS} {x1 : Int32} {x2 : Int32} {I : Nat → Int32} {A : Nat → Nat → Int32}  (hf : f_remark_32 x1 x2 I A = some o) : FrS [0] [] I A o.2.1 o.2.2 := by
  have hR : FrS [0] [] I A I A := frs_0
  unfold f_remark_32 at hf
  exact frs_t hR (fw_remark_37  hf) (fun _ h => h) (fun _ h => h)
theorem fw_remark_0 {o : Int32 × MS} {x1 : Int32} {x2 : Int32} {I : Nat → Int32} {A : Nat → Nat → Int32}  (hf : f_remark_0 x1 x2 I A = some o) : FrS [0] [] I A o.2.1 o.2.2 := by
  have hR : FrS [0] [] I A I A := frs_0
  unfold f_remark_0 at hf
  obtain ⟨or1, ho, hf⟩ := m_clE hf
  replace hR := frs_t hR (fw_isNode ho) (by decide) (by decide)
  clear ho
  rcases m_ifE hf with ⟨-, hf⟩ | ⟨-, hf⟩
  ·
    exact frs_t hR (fw_remark_32  hf) (fun _ h => h) (fun _ h => h)
  ·
    rcases m_ifE hf with ⟨-, hf⟩ | ⟨-, hf⟩
    ·
      exact frs_t hR (fw_remark_32  hf) (fun _ h => h) (fun _ h => h)
    ·
      obtain ⟨v2, ev, hf⟩ := m_bndE hf
      clear ev
      obtain ⟨v3, ev, hf⟩ := m_bndE hf
      clear ev
      obtain ⟨-, hf⟩ := m_chkE hf
      obtain ⟨v4, ev, hf⟩ := m_bndE hf
      clear ev
      rcases m_ifE hf with ⟨-, hf⟩ | ⟨-, hf⟩
      ·
        exact frs_t hR (fw_remark_37  hf) (fun _ h => h) (fun _ h => h)
      ·
        exact frs_t hR (fw_remark_32  hf) (fun _ h => h) (fun _ h => h)
theorem fw_remark {o : Int32 × MS} {x1 : Int32} {x2 : Int32} {I : Nat → Int32} {A : Nat → Nat → Int32} (hf : f_remark x1 x2 I A = some o) : FrS [0] [] I A o.2.1 o.2.2 := fw_remark_0  hf
theorem fw_here_0 {o : Int32 × MS} {I : Nat → Int32} {A : Nat → Nat → Int32}  (hf : f_here_0 I A = some o) : FrS [0] [] I A o.2.1 o.2.2 := by
  have hR : FrS [0] [] I A I A := frs_0
  unfold f_here_0 at hf
  obtain ⟨I1, ev, hf⟩ := m_bndE hf
  replace hR := frs_I hR (by decide) ev
  clear ev
  cases hf
  exact hR
theorem fw_here {o : Int32 × MS}  {I : Nat → Int32} {A : Nat → Nat → Int32} (hf : f_here  I A = some o) : FrS [0] [] I A o.2.1 o.2.2 := fw_here_0  hf
theorem fw_go_41 {o : Int32 × MS} {I : Nat → Int32} {A : Nat → Nat → Int32}  (hf : f_go_41 I A = some o) : FrS [0, 6, 25, 26, 27, 28, 29, 33] [24, 30, 31, 32, 34] I A o.2.1 o.2.2 := by
  have hR : FrS [0, 6, 25, 26, 27, 28, 29, 33] [24, 30, 31, 32, 34] I A I A := frs_0
  unfold f_go_41 at hf
  cases hf
  exact hR
theorem fw_go_14 {o : Int32 × MS} {x1 : Int32} {t0 : Int32} {I : Nat → Int32} {A : Nat → Nat → Int32}  (hf : f_go_14 x1 t0 I A = some o) : FrS [0, 6, 25, 26, 27, 28, 29, 33] [24, 30, 31, 32, 34] I A o.2.1 o.2.2 := by
  have hR : FrS [0, 6, 25, 26, 27, 28, 29, 33] [24, 30, 31, 32, 34] I A I A := frs_0
  unfold f_go_14 at hf
  obtain ⟨I1, ev, hf⟩ := m_bndE hf
  replace hR := frs_I hR (by decide) ev
  clear ev
  rcases m_ifE hf with ⟨-, hf⟩ | ⟨-, hf⟩
  ·
    obtain ⟨I2, ev, hf⟩ := m_bndE hf
    replace hR := frs_I hR (by decide) ev
    clear ev
    obtain ⟨or3, ho, hf⟩ := m_clE hf
    replace hR := frs_t hR (fw_place ho) (by decide) (by decide)
    clear ho
    exact frs_t hR (fw_go_41  hf) (fun _ h => h) (fun _ h => h)
  ·
    exact frs_t hR (fw_go_41  hf) (fun _ h => h) (fun _ h => h)
theorem fw_go_0 {o : Int32 × MS} {x1 : Int32} {I : Nat → Int32} {A : Nat → Nat → Int32}  (hf : f_go_0 x1 I A = some o) : FrS [0, 6, 25, 26, 27, 28, 29, 33] [24, 30, 31, 32, 34] I A o.2.1 o.2.2 := by
  have hR : FrS [0, 6, 25, 26, 27, 28, 29, 33] [24, 30, 31, 32, 34] I A I A := frs_0
  unfold f_go_0 at hf
  obtain ⟨or1, ho, hf⟩ := m_clE hf
  replace hR := frs_t hR (fw_isNode ho) (by decide) (by decide)
  clear ho
  rcases m_ifE hf with ⟨-, hf⟩ | ⟨-, hf⟩
  ·
    exact frs_t hR (fw_go_14  hf) (fun _ h => h) (fun _ h => h)
  ·
    exact frs_t hR (fw_go_14  hf) (fun _ h => h) (fun _ h => h)
theorem fw_go {o : Int32 × MS} {x1 : Int32} {I : Nat → Int32} {A : Nat → Nat → Int32} (hf : f_go x1 I A = some o) : FrS [0, 6, 25, 26, 27, 28, 29, 33] [24, 30, 31, 32, 34] I A o.2.1 o.2.2 := fw_go_0  hf
theorem fw_man_36 {o : Int32 × MS} {t0 : Int32} {I : Nat → Int32} {A : Nat → Nat → Int32}  (hf : f_man_36 t0 I A = some o) : FrS [0] [] I A o.2.1 o.2.2 := by
  have hR : FrS [0] [] I A I A := frs_0
  unfold f_man_36 at hf
  cases hf
  exact hR
theorem fw_man_16 {o : Int32 × MS} {x1 : Int32} {t0 : Int32} {I : Nat → Int32} {A : Nat → Nat → Int32}  (hf : f_man_16 x1 t0 I A = some o) : FrS [0] [] I A o.2.1 o.2.2 := by
  have hR : FrS [0] [] I A I A := frs_0
  unfold f_man_16 at hf
  obtain ⟨I1, ev, hf⟩ := m_bndE hf
  replace hR := frs_I hR (by decide) ev
  clear ev
  rcases m_ifE hf with ⟨-, hf⟩ | ⟨-, hf⟩
  ·
    obtain ⟨-, hf⟩ := m_chkE hf
    obtain ⟨v2, ev, hf⟩ := m_bndE hf
    clear ev
    exact frs_t hR (fw_man_36  hf) (fun _ h => h) (fun _ h => h)
  ·
    exact frs_t hR (fw_man_36  hf) (fun _ h => h) (fun _ h => h)
theorem fw_man_11 {o : Int32 × MS} {x1 : Int32} {I : Nat → Int32} {A : Nat → Nat → Int32}  (hf : f_man_11 x1 I A = some o) : FrS [0] [] I A o.2.1 o.2.2 := by
  have hR : FrS [0] [] I A I A := frs_0
  unfold f_man_11 at hf
  exact frs_t hR (fw_man_16  hf) (fun _ h => h) (fun _ h => h)
theorem fw_man_0 {o : Int32 × MS} {x1 : Int32} {I : Nat → Int32} {A : Nat → Nat → Int32}  (hf : f_man_0 x1 I A = some o) : FrS [0] [] I A o.2.1 o.2.2 := by
  have hR : FrS [0] [] I A I A := frs_0
  unfold f_man_0 at hf
  rcases m_ifE hf with ⟨-, hf⟩ | ⟨-, hf⟩
  ·
    exact frs_t hR (fw_man_11  hf) (fun _ h => h) (fun _ h => h)
  ·
    rcases m_ifE hf with ⟨-, hf⟩ | ⟨-, hf⟩
    ·
      exact frs_t hR (fw_man_16  hf) (fun _ h => h) (fun _ h => h)
    ·
      exact frs_t hR (fw_man_11  hf) (fun _ h => h) (fun _ h => h)
theorem fw_man {o : Int32 × MS} {x1 : Int32} {I : Nat → Int32} {A : Nat → Nat → Int32} (hf : f_man x1 I A = some o) : FrS [0] [] I A o.2.1 o.2.2 := fw_man_0  hf
theorem fw_move_27 {o : Int32 × MS} {t0 : Int32} {I : Nat → Int32} {A : Nat → Nat → Int32}  (hf : f_move_27 t0 I A = some o) : FrS [0] [] I A o.2.1 o.2.2 := by
  have hR : FrS [0] [] I A I A := frs_0
  unfold f_move_27 at hf
  cases hf
  exact hR
theorem fw_move_17 {o : Int32 × MS} {I : Nat → Int32} {A : Nat → Nat → Int32}  (hf : f_move_17 I A = some o) : FrS [0] [] I A o.2.1 o.2.2 := by
  have hR : FrS [0] [] I A I A := frs_0
  unfold f_move_17 at hf
  exact frs_t hR (fw_move_27  hf) (fun _ h => h) (fun _ h => h)
theorem fw_move_0 {o : Int32 × MS} {x1 : Int32} {I : Nat → Int32} {A : Nat → Nat → Int32}  (hf : f_move_0 x1 I A = some o) : FrS [0] [] I A o.2.1 o.2.2 := by
  have hR : FrS [0] [] I A I A := frs_0
  unfold f_move_0 at hf
  obtain ⟨I1, ev, hf⟩ := m_bndE hf
  replace hR := frs_I hR (by decide) ev
  clear ev
  rcases m_ifE hf with ⟨-, hf⟩ | ⟨-, hf⟩
  ·
    exact frs_t hR (fw_move_17  hf) (fun _ h => h) (fun _ h => h)
  ·
    rcases m_ifE hf with ⟨-, hf⟩ | ⟨-, hf⟩
    ·
      obtain ⟨-, hf⟩ := m_chkE hf
      obtain ⟨v2, ev, hf⟩ := m_bndE hf
      clear ev
      exact frs_t hR (fw_move_27  hf) (fun _ h => h) (fun _ h => h)
    ·
      exact frs_t hR (fw_move_17  hf) (fun _ h => h) (fun _ h => h)
theorem fw_move {o : Int32 × MS} {x1 : Int32} {I : Nat → Int32} {A : Nat → Nat → Int32} (hf : f_move x1 I A = some o) : FrS [0] [] I A o.2.1 o.2.2 := fw_move_0  hf
theorem fw_add_137 {o : Int32 × MS} {x2 : Int32} {I : Nat → Int32} {A : Nat → Nat → Int32}  (hf : f_add_137 x2 I A = some o) : FrS [0, 6, 25, 26, 27, 28, 29, 33] [7, 8, 9, 10, 11, 12, 14, 24, 30, 31, 32, 34] I A o.2.1 o.2.2 := by
  have hR : FrS [0, 6, 25, 26, 27, 28, 29, 33] [7, 8, 9, 10, 11, 12, 14, 24, 30, 31, 32, 34] I A I A := frs_0
  unfold f_add_137 at hf
  obtain ⟨I1, ev, hf⟩ := m_bndE hf
  replace hR := frs_I hR (by decide) ev
  clear ev
  obtain ⟨or2, ho, hf⟩ := m_clE hf
  replace hR := frs_t hR (fw_place ho) (by decide) (by decide)
  clear ho
  cases hf
  exact hR
theorem fw_add_111 {o : Int32 × MS} {x1 : Int32} {t0 : Int32} {I : Nat → Int32} {A : Nat → Nat → Int32}  (hf : f_add_111 x1 t0 I A = some o) : FrS [0, 6, 25, 26, 27, 28, 29, 33] [7, 8, 9, 10, 11, 12, 14, 24, 30, 31, 32, 34] I A o.2.1 o.2.2 := by
  have hR : FrS [0, 6, 25, 26, 27, 28, 29, 33] [7, 8, 9, 10, 11, 12, 14, 24, 30, 31, 32, 34] I A I A := frs_0
  unfold f_add_111 at hf
  obtain ⟨I1, ev, hf⟩ := m_bndE hf
  replace hR := frs_I hR (by decide) ev
  clear ev
  rcases m_ifE hf with ⟨-, hf⟩ | ⟨-, hf⟩
  ·
    obtain ⟨or2, ho, hf⟩ := m_clE hf
    replace hR := frs_t hR (fw_append ho) (by decide) (by decide)
    clear ho
    exact frs_t hR (fw_add_137  hf) (fun _ h => h) (fun _ h => h)
  ·
    cases hf
    exact hR
theorem fw_add_106 {o : Int32 × MS} {x1 : Int32} {I : Nat → Int32} {A : Nat → Nat → Int32}  (hf : f_add_106 x1 I A = some o) : FrS [0, 6, 25, 26, 27, 28, 29, 33] [7, 8, 9, 10, 11, 12, 14, 24, 30, 31, 32, 34] I A o.2.1 o.2.2 := by
  have hR : FrS [0, 6, 25, 26, 27, 28, 29, 33] [7, 8, 9, 10, 11, 12, 14, 24, 30, 31, 32, 34] I A I A := frs_0
  unfold f_add_106 at hf
  exact frs_t hR (fw_add_111  hf) (fun _ h => h) (fun _ h => h)
theorem fw_add_82 {o : Int32 × MS} {x1 : Int32} {t0 : Int32} {t1 : Int32} {I : Nat → Int32} {A : Nat → Nat → Int32}  (hf : f_add_82 x1 t0 t1 I A = some o) : FrS [0, 6, 25, 26, 27, 28, 29, 33] [7, 8, 9, 10, 11, 12, 14, 24, 30, 31, 32, 34] I A o.2.1 o.2.2 := by
  have hR : FrS [0, 6, 25, 26, 27, 28, 29, 33] [7, 8, 9, 10, 11, 12, 14, 24, 30, 31, 32, 34] I A I A := frs_0
  unfold f_add_82 at hf
  obtain ⟨v1, ev, hf⟩ := m_bndE hf
  clear ev
  obtain ⟨-, hf⟩ := m_chkE hf
  obtain ⟨v2, ev, hf⟩ := m_bndE hf
  clear ev
  rcases m_ifE hf with ⟨-, hf⟩ | ⟨-, hf⟩
  ·
    exact frs_t hR (fw_add_106  hf) (fun _ h => h) (fun _ h => h)
  ·
    rcases m_ifE hf with ⟨-, hf⟩ | ⟨-, hf⟩
    ·
      exact frs_t hR (fw_add_111  hf) (fun _ h => h) (fun _ h => h)
    ·
      exact frs_t hR (fw_add_106  hf) (fun _ h => h) (fun _ h => h)
theorem fw_add_14 {o : Int32 × MS} {x1 : Int32} {t0 : Int32} {I : Nat → Int32} {A : Nat → Nat → Int32}  (hf : f_add_14 x1 t0 I A = some o) : FrS [0, 6, 25, 26, 27, 28, 29, 33] [7, 8, 9, 10, 11, 12, 14, 24, 30, 31, 32, 34] I A o.2.1 o.2.2 := by
  have hR : FrS [0, 6, 25, 26, 27, 28, 29, 33] [7, 8, 9, 10, 11, 12, 14, 24, 30, 31, 32, 34] I A I A := frs_0
  unfold f_add_14 at hf
  obtain ⟨I1, ev, hf⟩ := m_bndE hf
  replace hR := frs_I hR (by decide) ev
  clear ev
  rcases m_ifE hf with ⟨-, hf⟩ | ⟨-, hf⟩
  ·
    obtain ⟨or2, ho, hf⟩ := m_clE hf
    replace hR := frs_t hR (fw_childWith ho) (by decide) (by decide)
    clear ho
    rcases m_ifE hf with ⟨-, hf⟩ | ⟨-, hf⟩
    ·
      exact frs_t hR (fw_add_137  hf) (fun _ h => h) (fun _ h => h)
    ·
      obtain ⟨or3, ho, hf⟩ := m_clE hf
      replace hR := frs_t hR (fw_deepOf ho) (by decide) (by decide)
      clear ho
      obtain ⟨v4, ev, hf⟩ := m_bndE hf
      clear ev
      obtain ⟨v5, ev, hf⟩ := m_bndE hf
      clear ev
      obtain ⟨-, hf⟩ := m_chkE hf
      obtain ⟨v6, ev, hf⟩ := m_bndE hf
      clear ev
      rcases m_ifE hf with ⟨-, hf⟩ | ⟨-, hf⟩
      ·
        exact frs_t hR (fw_add_82  hf) (fun _ h => h) (fun _ h => h)
      ·
        exact frs_t hR (fw_add_82  hf) (fun _ h => h) (fun _ h => h)
  ·
    cases hf
    exact hR
theorem fw_add_0 {o : Int32 × MS} {x1 : Int32} {I : Nat → Int32} {A : Nat → Nat → Int32}  (hf : f_add_0 x1 I A = some o) : FrS [0, 6, 25, 26, 27, 28, 29, 33] [7, 8, 9, 10, 11, 12, 14, 24, 30, 31, 32, 34] I A o.2.1 o.2.2 := by
  have hR : FrS [0, 6, 25, 26, 27, 28, 29, 33] [7, 8, 9, 10, 11, 12, 14, 24, 30, 31, 32, 34] I A I A := frs_0
  unfold f_add_0 at hf
  obtain ⟨or1, ho, hf⟩ := m_clE hf
  replace hR := frs_t hR (fw_isLegal ho) (by decide) (by decide)
  clear ho
  rcases m_ifE hf with ⟨-, hf⟩ | ⟨-, hf⟩
  ·
    exact frs_t hR (fw_add_14  hf) (fun _ h => h) (fun _ h => h)
  ·
    exact frs_t hR (fw_add_14  hf) (fun _ h => h) (fun _ h => h)
theorem fw_add {o : Int32 × MS} {x1 : Int32} {I : Nat → Int32} {A : Nat → Nat → Int32} (hf : f_add x1 I A = some o) : FrS [0, 6, 25, 26, 27, 28, 29, 33] [7, 8, 9, 10, 11, 12, 14, 24, 30, 31, 32, 34] I A o.2.1 o.2.2 := fw_add_0  hf
theorem fw_addMark_50 {o : Int32 × MS} {x1 : Int32} {t0 : Int32} {I : Nat → Int32} {A : Nat → Nat → Int32}  (hf : f_addMark_50 x1 t0 I A = some o) : FrS [0] [12, 13] I A o.2.1 o.2.2 := by
  have hR : FrS [0] [12, 13] I A I A := frs_0
  unfold f_addMark_50 at hf
  obtain ⟨I1, ev, hf⟩ := m_bndE hf
  replace hR := frs_I hR (by decide) ev
  clear ev
  rcases m_ifE hf with ⟨-, hf⟩ | ⟨-, hf⟩
  ·
    obtain ⟨or2, ho, hf⟩ := m_clE hf
    replace hR := frs_t hR (fw_addMarkTo ho) (by decide) (by decide)
    clear ho
    obtain ⟨v3, ev, hf⟩ := m_bndE hf
    clear ev
    obtain ⟨v4, ev, hf⟩ := m_bndE hf
    clear ev
    obtain ⟨-, hf⟩ := m_chkE hf
    obtain ⟨v5, ev, hf⟩ := m_bndE hf
    clear ev
    cases hf
    exact hR
  ·
    cases hf
    exact hR
theorem fw_addMark_12 {o : Int32 × MS} {x1 : Int32} {I : Nat → Int32} {A : Nat → Nat → Int32}  (hf : f_addMark_12 x1 I A = some o) : FrS [0] [12, 13] I A o.2.1 o.2.2 := by
  have hR : FrS [0] [12, 13] I A I A := frs_0
  unfold f_addMark_12 at hf
  exact frs_t hR (fw_addMark_50  hf) (fun _ h => h) (fun _ h => h)
theorem fw_addMark_45 {o : Int32 × MS} {x1 : Int32} {I : Nat → Int32} {A : Nat → Nat → Int32}  (hf : f_addMark_45 x1 I A = some o) : FrS [0] [12, 13] I A o.2.1 o.2.2 := by
  have hR : FrS [0] [12, 13] I A I A := frs_0
  unfold f_addMark_45 at hf
  exact frs_t hR (fw_addMark_50  hf) (fun _ h => h) (fun _ h => h)
theorem fw_addMark_0 {o : Int32 × MS} {x1 : Int32} {I : Nat → Int32} {A : Nat → Nat → Int32}  (hf : f_addMark_0 x1 I A = some o) : FrS [0] [12, 13] I A o.2.1 o.2.2 := by
  have hR : FrS [0] [12, 13] I A I A := frs_0
  unfold f_addMark_0 at hf
  rcases m_ifE hf with ⟨-, hf⟩ | ⟨-, hf⟩
  ·
    exact frs_t hR (fw_addMark_12  hf) (fun _ h => h) (fun _ h => h)
  ·
    rcases m_ifE hf with ⟨-, hf⟩ | ⟨-, hf⟩
    ·
      rcases m_ifE hf with ⟨-, hf⟩ | ⟨-, hf⟩
      ·
        exact frs_t hR (fw_addMark_45  hf) (fun _ h => h) (fun _ h => h)
      ·
        obtain ⟨v1, ev, hf⟩ := m_bndE hf
        clear ev
        obtain ⟨v2, ev, hf⟩ := m_bndE hf
        clear ev
        obtain ⟨-, hf⟩ := m_chkE hf
        obtain ⟨v3, ev, hf⟩ := m_bndE hf
        clear ev
        rcases m_ifE hf with ⟨-, hf⟩ | ⟨-, hf⟩
        ·
          exact frs_t hR (fw_addMark_45  hf) (fun _ h => h) (fun _ h => h)
        ·
          exact frs_t hR (fw_addMark_50  hf) (fun _ h => h) (fun _ h => h)
    ·
      exact frs_t hR (fw_addMark_12  hf) (fun _ h => h) (fun _ h => h)
theorem fw_addMark {o : Int32 × MS} {x1 : Int32} {I : Nat → Int32} {A : Nat → Nat → Int32} (hf : f_addMark x1 I A = some o) : FrS [0] [12, 13] I A o.2.1 o.2.2 := fw_addMark_0  hf
theorem fw_say_102s {o : Int32 × MS} {self102 : Int32 → Int32 → (Nat → Int32) → (Nat → Nat → Int32) → Option (Int32 × MS)} {x2 : Int32} {x3 : Int32} {I : Nat → Int32} {A : Nat → Nat → Int32} (hself102 : ∀ (z0 : Int32) (z1 : Int32) (I : Nat → Int32) (A : Nat → Nat → Int32) (o : Int32 × MS), self102 z0 z1 I A = some o → FrS [0, 1] [14, 15] I A o.2.1 o.2.2) (hf : f_say_102s self102 x2 x3 I A = some o) : FrS [0, 1] [14, 15] I A o.2.1 o.2.2 := by
  have hR : FrS [0, 1] [14, 15] I A I A := frs_0
  unfold f_say_102s at hf
  rcases m_ifE hf with ⟨-, hf⟩ | ⟨-, hf⟩
  ·
    obtain ⟨-, hf⟩ := m_chkE hf
    obtain ⟨A1, ev, hf⟩ := m_bndE hf
    replace hR := frs_A hR (by decide) ev
    clear ev
    obtain ⟨I2, ev, hf⟩ := m_bndE hf
    replace hR := frs_I hR (by decide) ev
    clear ev
    obtain ⟨-, hf⟩ := m_chkE hf
    obtain ⟨v3, ev, hf⟩ := m_bndE hf
    clear ev
    cases hf
    exact hR
  ·
    obtain ⟨v4, ev, hf⟩ := m_bndE hf
    clear ev
    obtain ⟨v5, ev, hf⟩ := m_bndE hf
    clear ev
    obtain ⟨-, hf⟩ := m_chkE hf
    obtain ⟨v6, ev, hf⟩ := m_bndE hf
    clear ev
    obtain ⟨-, hf⟩ := m_chkE hf
    obtain ⟨A7, ev, hf⟩ := m_bndE hf
    replace hR := frs_A hR (by decide) ev
    clear ev
    obtain ⟨v8, ev, hf⟩ := m_bndE hf
    clear ev
    exact frs_t hR (hself102 _ _ _ _ _ hf) (fun _ h => h) (fun _ h => h)
theorem fw_say_102   (n : Nat) : ∀ (y0 : Int32) (y1 : Int32) (I : Nat → Int32) (A : Nat → Nat → Int32) (o : Int32 × MS), f_say_102  n y0 y1 I A = some o → FrS [0, 1] [14, 15] I A o.2.1 o.2.2 := by
  induction n with
  | zero => intro y0 y1 I A o hf; cases hf
  | succ n ih => intro y0 y1 I A o hf; exact fw_say_102s  ih hf
theorem fw_say_74 {o : Int32 × MS} {t0 : Int32} {I : Nat → Int32} {A : Nat → Nat → Int32}  (hf : f_say_74 t0 I A = some o) : FrS [0, 1] [14, 15] I A o.2.1 o.2.2 := by
  have hR : FrS [0, 1] [14, 15] I A I A := frs_0
  unfold f_say_74 at hf
  obtain ⟨I1, ev, hf⟩ := m_bndE hf
  replace hR := frs_I hR (by decide) ev
  clear ev
  rcases m_ifE hf with ⟨-, hf⟩ | ⟨-, hf⟩
  ·
    obtain ⟨v2, ev, hf⟩ := m_bndE hf
    clear ev
    obtain ⟨v3, ev, hf⟩ := m_bndE hf
    clear ev
    exact frs_t hR (fw_say_102  mFuel _ _ _ _ _ hf) (fun _ h => h) (fun _ h => h)
  ·
    cases hf
    exact hR
theorem fw_say_57 {o : Int32 × MS} {self18 : Int32 → Int32 → (Nat → Int32) → (Nat → Nat → Int32) → Option (Int32 × MS)} {x2 : Int32} {t0 : Int32} {I : Nat → Int32} {A : Nat → Nat → Int32} (hself18 : ∀ (z0 : Int32) (z1 : Int32) (I : Nat → Int32) (A : Nat → Nat → Int32) (o : Int32 × MS), self18 z0 z1 I A = some o → FrS [0, 1] [14, 15] I A o.2.1 o.2.2) (hf : f_say_57 self18 x2 t0 I A = some o) : FrS [0, 1] [14, 15] I A o.2.1 o.2.2 := by
  have hR : FrS [0, 1] [14, 15] I A I A := frs_0
  unfold f_say_57 at hf
  obtain ⟨v1, ev, hf⟩ := m_bndE hf
  clear ev
  exact frs_t hR (hself18 _ _ _ _ _ hf) (fun _ h => h) (fun _ h => h)
theorem fw_say_56 {o : Int32 × MS} {self18 : Int32 → Int32 → (Nat → Int32) → (Nat → Nat → Int32) → Option (Int32 × MS)} {x2 : Int32} {I : Nat → Int32} {A : Nat → Nat → Int32} (hself18 : ∀ (z0 : Int32) (z1 : Int32) (I : Nat → Int32) (A : Nat → Nat → Int32) (o : Int32 × MS), self18 z0 z1 I A = some o → FrS [0, 1] [14, 15] I A o.2.1 o.2.2) (hf : f_say_56 self18 x2 I A = some o) : FrS [0, 1] [14, 15] I A o.2.1 o.2.2 := by
  have hR : FrS [0, 1] [14, 15] I A I A := frs_0
  unfold f_say_56 at hf
  exact frs_t hR (fw_say_57 hself18 hf) (fun _ h => h) (fun _ h => h)
theorem fw_say_18s {o : Int32 × MS} {self18 : Int32 → Int32 → (Nat → Int32) → (Nat → Nat → Int32) → Option (Int32 × MS)} {x1 : Int32} {x2 : Int32} {I : Nat → Int32} {A : Nat → Nat → Int32} (hself18 : ∀ (z0 : Int32) (z1 : Int32) (I : Nat → Int32) (A : Nat → Nat → Int32) (o : Int32 × MS), self18 z0 z1 I A = some o → FrS [0, 1] [14, 15] I A o.2.1 o.2.2) (hf : f_say_18s self18 x1 x2 I A = some o) : FrS [0, 1] [14, 15] I A o.2.1 o.2.2 := by
  have hR : FrS [0, 1] [14, 15] I A I A := frs_0
  unfold f_say_18s at hf
  rcases m_ifE hf with ⟨-, hf⟩ | ⟨-, hf⟩
  ·
    rcases m_ifE hf with ⟨-, hf⟩ | ⟨-, hf⟩
    ·
      exact frs_t hR (fw_say_74  hf) (fun _ h => h) (fun _ h => h)
    ·
      exact frs_t hR (fw_say_74  hf) (fun _ h => h) (fun _ h => h)
  ·
    rcases m_ifE hf with ⟨-, hf⟩ | ⟨-, hf⟩
    ·
      exact frs_t hR (fw_say_56 hself18 hf) (fun _ h => h) (fun _ h => h)
    ·
      obtain ⟨-, hf⟩ := m_chkE hf
      obtain ⟨v1, ev, hf⟩ := m_bndE hf
      clear ev
      rcases m_ifE hf with ⟨-, hf⟩ | ⟨-, hf⟩
      ·
        exact frs_t hR (fw_say_56 hself18 hf) (fun _ h => h) (fun _ h => h)
      ·
        obtain ⟨-, hf⟩ := m_chkE hf
        obtain ⟨v2, ev, hf⟩ := m_bndE hf
        clear ev
        rcases m_ifE hf with ⟨-, hf⟩ | ⟨-, hf⟩
        ·
          exact frs_t hR (fw_say_56 hself18 hf) (fun _ h => h) (fun _ h => h)
        ·
          exact frs_t hR (fw_say_57 hself18 hf) (fun _ h => h) (fun _ h => h)
theorem fw_say_18   (n : Nat) : ∀ (y0 : Int32) (y1 : Int32) (I : Nat → Int32) (A : Nat → Nat → Int32) (o : Int32 × MS), f_say_18  n y0 y1 I A = some o → FrS [0, 1] [14, 15] I A o.2.1 o.2.2 := by
  induction n with
  | zero => intro y0 y1 I A o hf; cases hf
  | succ n ih => intro y0 y1 I A o hf; exact fw_say_18s  ih hf
theorem fw_say_15 {o : Int32 × MS} {t0 : Int32} {I : Nat → Int32} {A : Nat → Nat → Int32}  (hf : f_say_15 t0 I A = some o) : FrS [0, 1] [14, 15] I A o.2.1 o.2.2 := by
  have hR : FrS [0, 1] [14, 15] I A I A := frs_0
  unfold f_say_15 at hf
  exact frs_t hR (fw_say_18  mFuel _ _ _ _ _ hf) (fun _ h => h) (fun _ h => h)
theorem fw_say_0 {o : Int32 × MS} {I : Nat → Int32} {A : Nat → Nat → Int32}  (hf : f_say_0 I A = some o) : FrS [0, 1] [14, 15] I A o.2.1 o.2.2 := by
  have hR : FrS [0, 1] [14, 15] I A I A := frs_0
  unfold f_say_0 at hf
  rcases m_ifE hf with ⟨-, hf⟩ | ⟨-, hf⟩
  ·
    exact frs_t hR (fw_say_15  hf) (fun _ h => h) (fun _ h => h)
  ·
    exact frs_t hR (fw_say_15  hf) (fun _ h => h) (fun _ h => h)
theorem fw_say {o : Int32 × MS}  {I : Nat → Int32} {A : Nat → Nat → Int32} (hf : f_say  I A = some o) : FrS [0, 1] [14, 15] I A o.2.1 o.2.2 := fw_say_0  hf
theorem fw_isBehind_36 {o : Int32 × MS} {t0 : Int32} {I : Nat → Int32} {A : Nat → Nat → Int32}  (hf : f_isBehind_36 t0 I A = some o) : FrS [] [] I A o.2.1 o.2.2 := by
  have hR : FrS [] [] I A I A := frs_0
  unfold f_isBehind_36 at hf
  obtain ⟨-, hf⟩ := m_chkE hf
  cases hf
  exact hR
theorem fw_isBehind_2s {o : Int32 × MS} {self2 : Int32 → Int32 → (Nat → Int32) → (Nat → Nat → Int32) → Option (Int32 × MS)} {x2 : Int32} {x3 : Int32} {I : Nat → Int32} {A : Nat → Nat → Int32} (hself2 : ∀ (z0 : Int32) (z1 : Int32) (I : Nat → Int32) (A : Nat → Nat → Int32) (o : Int32 × MS), self2 z0 z1 I A = some o → FrS [] [] I A o.2.1 o.2.2) (hf : f_isBehind_2s self2 x2 x3 I A = some o) : FrS [] [] I A o.2.1 o.2.2 := by
  have hR : FrS [] [] I A I A := frs_0
  unfold f_isBehind_2s at hf
  rcases m_ifE hf with ⟨-, hf⟩ | ⟨-, hf⟩
  ·
    rcases m_ifE hf with ⟨-, hf⟩ | ⟨-, hf⟩
    ·
      exact frs_t hR (fw_isBehind_36  hf) (fun _ h => h) (fun _ h => h)
    ·
      exact frs_t hR (fw_isBehind_36  hf) (fun _ h => h) (fun _ h => h)
  ·
    obtain ⟨v1, ev, hf⟩ := m_bndE hf
    clear ev
    obtain ⟨v2, ev, hf⟩ := m_bndE hf
    clear ev
    obtain ⟨-, hf⟩ := m_chkE hf
    obtain ⟨v3, ev, hf⟩ := m_bndE hf
    clear ev
    exact frs_t hR (hself2 _ _ _ _ _ hf) (fun _ h => h) (fun _ h => h)
theorem fw_isBehind_2   (n : Nat) : ∀ (y0 : Int32) (y1 : Int32) (I : Nat → Int32) (A : Nat → Nat → Int32) (o : Int32 × MS), f_isBehind_2  n y0 y1 I A = some o → FrS [] [] I A o.2.1 o.2.2 := by
  induction n with
  | zero => intro y0 y1 I A o hf; cases hf
  | succ n ih => intro y0 y1 I A o hf; exact fw_isBehind_2s  ih hf
theorem fw_isBehind_0 {o : Int32 × MS} {x1 : Int32} {x2 : Int32} {I : Nat → Int32} {A : Nat → Nat → Int32}  (hf : f_isBehind_0 x1 x2 I A = some o) : FrS [] [] I A o.2.1 o.2.2 := by
  have hR : FrS [] [] I A I A := frs_0
  unfold f_isBehind_0 at hf
  exact frs_t hR (fw_isBehind_2  mFuel _ _ _ _ _ hf) (fun _ h => h) (fun _ h => h)
theorem fw_isBehind {o : Int32 × MS} {x1 : Int32} {x2 : Int32} {I : Nat → Int32} {A : Nat → Nat → Int32} (hf : f_isBehind x1 x2 I A = some o) : FrS [] [] I A o.2.1 o.2.2 := fw_isBehind_0  hf
theorem fw_lead_123s {o : Int32 × MS} {self123 : Int32 → Int32 → Int32 → (Nat → Int32) → (Nat → Nat → Int32) → Option (Int32 × MS)} {x1 : Int32} {x2 : Int32} {x3 : Int32} {I : Nat → Int32} {A : Nat → Nat → Int32} (hself123 : ∀ (z0 : Int32) (z1 : Int32) (z2 : Int32) (I : Nat → Int32) (A : Nat → Nat → Int32) (o : Int32 × MS), self123 z0 z1 z2 I A = some o → FrS [0] [10, 11] I A o.2.1 o.2.2) (hf : f_lead_123s self123 x1 x2 x3 I A = some o) : FrS [0] [10, 11] I A o.2.1 o.2.2 := by
  have hR : FrS [0] [10, 11] I A I A := frs_0
  unfold f_lead_123s at hf
  obtain ⟨v1, ev, hf⟩ := m_bndE hf
  clear ev
  obtain ⟨v2, ev, hf⟩ := m_bndE hf
  clear ev
  obtain ⟨-, hf⟩ := m_chkE hf
  obtain ⟨v3, ev, hf⟩ := m_bndE hf
  clear ev
  rcases m_ifE hf with ⟨-, hf⟩ | ⟨-, hf⟩
  ·
    obtain ⟨v4, ev, hf⟩ := m_bndE hf
    clear ev
    obtain ⟨v5, ev, hf⟩ := m_bndE hf
    clear ev
    obtain ⟨v6, ev, hf⟩ := m_bndE hf
    clear ev
    obtain ⟨v7, ev, hf⟩ := m_bndE hf
    clear ev
    obtain ⟨-, hf⟩ := m_chkE hf
    obtain ⟨v8, ev, hf⟩ := m_bndE hf
    clear ev
    obtain ⟨-, hf⟩ := m_chkE hf
    obtain ⟨A9, ev, hf⟩ := m_bndE hf
    replace hR := frs_A hR (by decide) ev
    clear ev
    obtain ⟨v10, ev, hf⟩ := m_bndE hf
    clear ev
    obtain ⟨v11, ev, hf⟩ := m_bndE hf
    clear ev
    obtain ⟨-, hf⟩ := m_chkE hf
    obtain ⟨A12, ev, hf⟩ := m_bndE hf
    replace hR := frs_A hR (by decide) ev
    clear ev
    obtain ⟨v13, ev, hf⟩ := m_bndE hf
    clear ev
    obtain ⟨v14, ev, hf⟩ := m_bndE hf
    clear ev
    obtain ⟨-, hf⟩ := m_chkE hf
    obtain ⟨A15, ev, hf⟩ := m_bndE hf
    replace hR := frs_A hR (by decide) ev
    clear ev
    obtain ⟨-, hf⟩ := m_chkE hf
    cases hf
    exact hR
  ·
    obtain ⟨v16, ev, hf⟩ := m_bndE hf
    clear ev
    obtain ⟨v17, ev, hf⟩ := m_bndE hf
    clear ev
    obtain ⟨-, hf⟩ := m_chkE hf
    obtain ⟨v18, ev, hf⟩ := m_bndE hf
    clear ev
    exact frs_t hR (hself123 _ _ _ _ _ _ hf) (fun _ h => h) (fun _ h => h)
theorem fw_lead_123   (n : Nat) : ∀ (y0 : Int32) (y1 : Int32) (y2 : Int32) (I : Nat → Int32) (A : Nat → Nat → Int32) (o : Int32 × MS), f_lead_123  n y0 y1 y2 I A = some o → FrS [0] [10, 11] I A o.2.1 o.2.2 := by
  induction n with
  | zero => intro y0 y1 y2 I A o hf; cases hf
  | succ n ih => intro y0 y1 y2 I A o hf; exact fw_lead_123s  ih hf
theorem fw_lead_115 {o : Int32 × MS} {self72 : Int32 → Int32 → Int32 → (Nat → Int32) → (Nat → Nat → Int32) → Option (Int32 × MS)} {x1 : Int32} {x2 : Int32} {x3 : Int32} {I : Nat → Int32} {A : Nat → Nat → Int32} (hself72 : ∀ (z0 : Int32) (z1 : Int32) (z2 : Int32) (I : Nat → Int32) (A : Nat → Nat → Int32) (o : Int32 × MS), self72 z0 z1 z2 I A = some o → FrS [0] [10, 11] I A o.2.1 o.2.2) (hf : f_lead_115 self72 x1 x2 x3 I A = some o) : FrS [0] [10, 11] I A o.2.1 o.2.2 := by
  have hR : FrS [0] [10, 11] I A I A := frs_0
  unfold f_lead_115 at hf
  obtain ⟨v1, ev, hf⟩ := m_bndE hf
  clear ev
  exact frs_t hR (hself72 _ _ _ _ _ _ hf) (fun _ h => h) (fun _ h => h)
theorem fw_lead_72s {o : Int32 × MS} {self72 : Int32 → Int32 → Int32 → (Nat → Int32) → (Nat → Nat → Int32) → Option (Int32 × MS)} {x1 : Int32} {x2 : Int32} {x3 : Int32} {I : Nat → Int32} {A : Nat → Nat → Int32} (hself72 : ∀ (z0 : Int32) (z1 : Int32) (z2 : Int32) (I : Nat → Int32) (A : Nat → Nat → Int32) (o : Int32 × MS), self72 z0 z1 z2 I A = some o → FrS [0] [10, 11] I A o.2.1 o.2.2) (hf : f_lead_72s self72 x1 x2 x3 I A = some o) : FrS [0] [10, 11] I A o.2.1 o.2.2 := by
  have hR : FrS [0] [10, 11] I A I A := frs_0
  unfold f_lead_72s at hf
  obtain ⟨-, hf⟩ := m_chkE hf
  obtain ⟨v1, ev, hf⟩ := m_bndE hf
  clear ev
  rcases m_ifE hf with ⟨-, hf⟩ | ⟨-, hf⟩
  ·
    exact frs_t hR (fw_lead_123  mFuel _ _ _ _ _ _ hf) (fun _ h => h) (fun _ h => h)
  ·
    obtain ⟨or2, ho, hf⟩ := m_clE hf
    replace hR := frs_t hR (fw_isBehind ho) (by decide) (by decide)
    clear ho
    rcases m_ifE hf with ⟨-, hf⟩ | ⟨-, hf⟩
    ·
      exact frs_t hR (fw_lead_115 hself72 hf) (fun _ h => h) (fun _ h => h)
    ·
      obtain ⟨or3, ho, hf⟩ := m_clE hf
      replace hR := frs_t hR (fw_deepOf ho) (by decide) (by decide)
      clear ho
      rcases m_ifE hf with ⟨-, hf⟩ | ⟨-, hf⟩
      ·
        obtain ⟨I4, ev, hf⟩ := m_bndE hf
        replace hR := frs_I hR (by decide) ev
        clear ev
        obtain ⟨-, hf⟩ := m_chkE hf
        cases hf
        exact hR
      ·
        exact frs_t hR (fw_lead_115 hself72 hf) (fun _ h => h) (fun _ h => h)
theorem fw_lead_72   (n : Nat) : ∀ (y0 : Int32) (y1 : Int32) (y2 : Int32) (I : Nat → Int32) (A : Nat → Nat → Int32) (o : Int32 × MS), f_lead_72  n y0 y1 y2 I A = some o → FrS [0] [10, 11] I A o.2.1 o.2.2 := by
  induction n with
  | zero => intro y0 y1 y2 I A o hf; cases hf
  | succ n ih => intro y0 y1 y2 I A o hf; exact fw_lead_72s  ih hf
theorem fw_lead_13 {o : Int32 × MS} {t0 : Int32} {I : Nat → Int32} {A : Nat → Nat → Int32}  (hf : f_lead_13 t0 I A = some o) : FrS [0] [10, 11] I A o.2.1 o.2.2 := by
  have hR : FrS [0] [10, 11] I A I A := frs_0
  unfold f_lead_13 at hf
  obtain ⟨I1, ev, hf⟩ := m_bndE hf
  replace hR := frs_I hR (by decide) ev
  clear ev
  rcases m_ifE hf with ⟨-, hf⟩ | ⟨-, hf⟩
  ·
    obtain ⟨v2, ev, hf⟩ := m_bndE hf
    clear ev
    obtain ⟨v3, ev, hf⟩ := m_bndE hf
    clear ev
    obtain ⟨-, hf⟩ := m_chkE hf
    obtain ⟨v4, ev, hf⟩ := m_bndE hf
    clear ev
    obtain ⟨v5, ev, hf⟩ := m_bndE hf
    clear ev
    obtain ⟨v6, ev, hf⟩ := m_bndE hf
    clear ev
    obtain ⟨-, hf⟩ := m_chkE hf
    obtain ⟨v7, ev, hf⟩ := m_bndE hf
    clear ev
    rcases m_ifE hf with ⟨-, hf⟩ | ⟨-, hf⟩
    ·
      obtain ⟨-, hf⟩ := m_chkE hf
      cases hf
      exact hR
    ·
      exact frs_t hR (fw_lead_72  mFuel _ _ _ _ _ _ hf) (fun _ h => h) (fun _ h => h)
  ·
    obtain ⟨-, hf⟩ := m_chkE hf
    cases hf
    exact hR
theorem fw_lead_0 {o : Int32 × MS} {I : Nat → Int32} {A : Nat → Nat → Int32}  (hf : f_lead_0 I A = some o) : FrS [0] [10, 11] I A o.2.1 o.2.2 := by
  have hR : FrS [0] [10, 11] I A I A := frs_0
  unfold f_lead_0 at hf
  rcases m_ifE hf with ⟨-, hf⟩ | ⟨-, hf⟩
  ·
    exact frs_t hR (fw_lead_13  hf) (fun _ h => h) (fun _ h => h)
  ·
    exact frs_t hR (fw_lead_13  hf) (fun _ h => h) (fun _ h => h)
theorem fw_lead {o : Int32 × MS}  {I : Nat → Int32} {A : Nat → Nat → Int32} (hf : f_lead  I A = some o) : FrS [0] [10, 11] I A o.2.1 o.2.2 := fw_lead_0  hf
theorem fw_end_46 {o : Int32 × MS} {t0 : Int32} {t1 : Int32} {I : Nat → Int32} {A : Nat → Nat → Int32}  (hf : f_end_46 t0 t1 I A = some o) : FrS [0] [23] I A o.2.1 o.2.2 := by
  have hR : FrS [0] [23] I A I A := frs_0
  unfold f_end_46 at hf
  obtain ⟨-, hf⟩ := m_chkE hf
  obtain ⟨A1, ev, hf⟩ := m_bndE hf
  replace hR := frs_A hR (by decide) ev
  clear ev
  cases hf
  exact hR
theorem fw_end_15 {o : Int32 × MS} {x1 : Int32} {t0 : Int32} {I : Nat → Int32} {A : Nat → Nat → Int32}  (hf : f_end_15 x1 t0 I A = some o) : FrS [0] [23] I A o.2.1 o.2.2 := by
  have hR : FrS [0] [23] I A I A := frs_0
  unfold f_end_15 at hf
  obtain ⟨I1, ev, hf⟩ := m_bndE hf
  replace hR := frs_I hR (by decide) ev
  clear ev
  rcases m_ifE hf with ⟨-, hf⟩ | ⟨-, hf⟩
  ·
    exact frs_t hR (fw_end_46  hf) (fun _ h => h) (fun _ h => h)
  ·
    obtain ⟨-, hf⟩ := m_chkE hf
    obtain ⟨v2, ev, hf⟩ := m_bndE hf
    clear ev
    exact frs_t hR (fw_end_46  hf) (fun _ h => h) (fun _ h => h)
theorem fw_end_10 {o : Int32 × MS} {x1 : Int32} {I : Nat → Int32} {A : Nat → Nat → Int32}  (hf : f_end_10 x1 I A = some o) : FrS [0] [23] I A o.2.1 o.2.2 := by
  have hR : FrS [0] [23] I A I A := frs_0
  unfold f_end_10 at hf
  exact frs_t hR (fw_end_15  hf) (fun _ h => h) (fun _ h => h)
theorem fw_end_0 {o : Int32 × MS} {x1 : Int32} {I : Nat → Int32} {A : Nat → Nat → Int32}  (hf : f_end_0 x1 I A = some o) : FrS [0] [23] I A o.2.1 o.2.2 := by
  have hR : FrS [0] [23] I A I A := frs_0
  unfold f_end_0 at hf
  rcases m_ifE hf with ⟨-, hf⟩ | ⟨-, hf⟩
  ·
    exact frs_t hR (fw_end_10  hf) (fun _ h => h) (fun _ h => h)
  ·
    rcases m_ifE hf with ⟨-, hf⟩ | ⟨-, hf⟩
    ·
      exact frs_t hR (fw_end_15  hf) (fun _ h => h) (fun _ h => h)
    ·
      exact frs_t hR (fw_end_10  hf) (fun _ h => h) (fun _ h => h)
theorem fw_end {o : Int32 × MS} {x1 : Int32} {I : Nat → Int32} {A : Nat → Nat → Int32} (hf : f_end x1 I A = some o) : FrS [0] [23] I A o.2.1 o.2.2 := fw_end_0  hf
theorem fw_result_0 {o : Int32 × MS} {I : Nat → Int32} {A : Nat → Nat → Int32}  (hf : f_result_0 I A = some o) : FrS [0] [] I A o.2.1 o.2.2 := by
  have hR : FrS [0] [] I A I A := frs_0
  unfold f_result_0 at hf
  obtain ⟨I1, ev, hf⟩ := m_bndE hf
  replace hR := frs_I hR (by decide) ev
  clear ev
  obtain ⟨-, hf⟩ := m_chkE hf
  obtain ⟨v2, ev, hf⟩ := m_bndE hf
  clear ev
  cases hf
  exact hR
theorem fw_result {o : Int32 × MS}  {I : Nat → Int32} {A : Nat → Nat → Int32} (hf : f_result  I A = some o) : FrS [0] [] I A o.2.1 o.2.2 := fw_result_0  hf
theorem fw_tags_0 {o : Int32 × MS} {I : Nat → Int32} {A : Nat → Nat → Int32}  (hf : f_tags_0 I A = some o) : FrS [0] [] I A o.2.1 o.2.2 := by
  have hR : FrS [0] [] I A I A := frs_0
  unfold f_tags_0 at hf
  obtain ⟨I1, ev, hf⟩ := m_bndE hf
  replace hR := frs_I hR (by decide) ev
  clear ev
  obtain ⟨-, hf⟩ := m_chkE hf
  obtain ⟨v2, ev, hf⟩ := m_bndE hf
  clear ev
  cases hf
  exact hR
theorem fw_tags {o : Int32 × MS}  {I : Nat → Int32} {A : Nat → Nat → Int32} (hf : f_tags  I A = some o) : FrS [0] [] I A o.2.1 o.2.2 := fw_tags_0  hf
theorem fw_tag_132 {o : Int32 × MS} {t0 : Int32} {I : Nat → Int32} {A : Nat → Nat → Int32}  (hf : f_tag_132 t0 I A = some o) : FrS [0] [] I A o.2.1 o.2.2 := by
  have hR : FrS [0] [] I A I A := frs_0
  unfold f_tag_132 at hf
  cases hf
  exact hR
theorem fw_tag_74 {o : Int32 × MS} {x1 : Int32} {x2 : Int32} {x3 : Int32} {t0 : Int32} {I : Nat → Int32} {A : Nat → Nat → Int32}  (hf : f_tag_74 x1 x2 x3 t0 I A = some o) : FrS [0] [] I A o.2.1 o.2.2 := by
  have hR : FrS [0] [] I A I A := frs_0
  unfold f_tag_74 at hf
  rcases m_ifE hf with ⟨-, hf⟩ | ⟨-, hf⟩
  ·
    rcases m_ifE hf with ⟨-, hf⟩ | ⟨-, hf⟩
    ·
      obtain ⟨v1, ev, hf⟩ := m_bndE hf
      clear ev
      obtain ⟨v2, ev, hf⟩ := m_bndE hf
      clear ev
      obtain ⟨v3, ev, hf⟩ := m_bndE hf
      clear ev
      obtain ⟨v4, ev, hf⟩ := m_bndE hf
      clear ev
      obtain ⟨-, hf⟩ := m_chkE hf
      obtain ⟨v5, ev, hf⟩ := m_bndE hf
      clear ev
      exact frs_t hR (fw_tag_132  hf) (fun _ h => h) (fun _ h => h)
    ·
      obtain ⟨v6, ev, hf⟩ := m_bndE hf
      clear ev
      obtain ⟨v7, ev, hf⟩ := m_bndE hf
      clear ev
      obtain ⟨v8, ev, hf⟩ := m_bndE hf
      clear ev
      obtain ⟨v9, ev, hf⟩ := m_bndE hf
      clear ev
      obtain ⟨-, hf⟩ := m_chkE hf
      obtain ⟨v10, ev, hf⟩ := m_bndE hf
      clear ev
      exact frs_t hR (fw_tag_132  hf) (fun _ h => h) (fun _ h => h)
  ·
    exact frs_t hR (fw_tag_132  hf) (fun _ h => h) (fun _ h => h)
theorem fw_tag_27 {o : Int32 × MS} {x1 : Int32} {x2 : Int32} {x3 : Int32} {t0 : Int32} {I : Nat → Int32} {A : Nat → Nat → Int32}  (hf : f_tag_27 x1 x2 x3 t0 I A = some o) : FrS [0] [] I A o.2.1 o.2.2 := by
  have hR : FrS [0] [] I A I A := frs_0
  unfold f_tag_27 at hf
  obtain ⟨I1, ev, hf⟩ := m_bndE hf
  replace hR := frs_I hR (by decide) ev
  clear ev
  rcases m_ifE hf with ⟨-, hf⟩ | ⟨-, hf⟩
  ·
    rcases m_ifE hf with ⟨-, hf⟩ | ⟨-, hf⟩
    ·
      obtain ⟨v2, ev, hf⟩ := m_bndE hf
      clear ev
      obtain ⟨v3, ev, hf⟩ := m_bndE hf
      clear ev
      obtain ⟨-, hf⟩ := m_chkE hf
      obtain ⟨v4, ev, hf⟩ := m_bndE hf
      clear ev
      exact frs_t hR (fw_tag_74  hf) (fun _ h => h) (fun _ h => h)
    ·
      obtain ⟨v5, ev, hf⟩ := m_bndE hf
      clear ev
      obtain ⟨v6, ev, hf⟩ := m_bndE hf
      clear ev
      obtain ⟨-, hf⟩ := m_chkE hf
      obtain ⟨v7, ev, hf⟩ := m_bndE hf
      clear ev
      exact frs_t hR (fw_tag_74  hf) (fun _ h => h) (fun _ h => h)
  ·
    cases hf
    exact hR
theorem fw_tag_22 {o : Int32 × MS} {x1 : Int32} {x2 : Int32} {x3 : Int32} {I : Nat → Int32} {A : Nat → Nat → Int32}  (hf : f_tag_22 x1 x2 x3 I A = some o) : FrS [0] [] I A o.2.1 o.2.2 := by
  have hR : FrS [0] [] I A I A := frs_0
  unfold f_tag_22 at hf
  exact frs_t hR (fw_tag_27  hf) (fun _ h => h) (fun _ h => h)
theorem fw_tag_0 {o : Int32 × MS} {x1 : Int32} {x2 : Int32} {x3 : Int32} {I : Nat → Int32} {A : Nat → Nat → Int32}  (hf : f_tag_0 x1 x2 x3 I A = some o) : FrS [0] [] I A o.2.1 o.2.2 := by
  have hR : FrS [0] [] I A I A := frs_0
  unfold f_tag_0 at hf
  rcases m_ifE hf with ⟨-, hf⟩ | ⟨-, hf⟩
  ·
    exact frs_t hR (fw_tag_22  hf) (fun _ h => h) (fun _ h => h)
  ·
    obtain ⟨-, hf⟩ := m_chkE hf
    obtain ⟨v1, ev, hf⟩ := m_bndE hf
    clear ev
    rcases m_ifE hf with ⟨-, hf⟩ | ⟨-, hf⟩
    ·
      exact frs_t hR (fw_tag_22  hf) (fun _ h => h) (fun _ h => h)
    ·
      rcases m_ifE hf with ⟨-, hf⟩ | ⟨-, hf⟩
      ·
        exact frs_t hR (fw_tag_27  hf) (fun _ h => h) (fun _ h => h)
      ·
        exact frs_t hR (fw_tag_22  hf) (fun _ h => h) (fun _ h => h)
theorem fw_tag {o : Int32 × MS} {x1 : Int32} {x2 : Int32} {x3 : Int32} {I : Nat → Int32} {A : Nat → Nat → Int32} (hf : f_tag x1 x2 x3 I A = some o) : FrS [0] [] I A o.2.1 o.2.2 := fw_tag_0  hf
