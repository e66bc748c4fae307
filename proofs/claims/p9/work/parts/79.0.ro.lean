theorem m_calY {α β : Type} {e : Option α} {k : α → Option β} {r : β} {c : α} (hf : m_cal e k = some r) (he : e = some c) : k c = some r := by
  rw [he] at hf; exact hf
theorem m_calR {α β : Type} {e : Option (α × ZS)} {k : α × ZS → Option β} {r : β} {S : ZS} (hf : m_cal e k = some r) (he : ∀ x, e = some x → x.2 = S) : ∃ y : α, e = some (y, S) ∧ k (y, S) = some r := by
  obtain ⟨⟨y, T⟩, h1, h2⟩ := m_calE hf
  have h3 := he _ h1
  dsimp only at h3
  subst h3
  exact ⟨y, h1, h2⟩
theorem m_clR {γ : Type} {e : Option (Int32 × MS)} {k : Int32 → (Nat → Int32) → (Nat → Nat → Int32) → Option γ} {r : γ} {I : Nat → Int32} {A : Nat → Nat → Int32} (hf : m_cl e k = some r) (he : ∀ x, e = some x → x.2 = (I, A)) : ∃ y : Int32, e = some (y, (I, A)) ∧ k y I A = some r := by
  obtain ⟨⟨y, T, U⟩, h1, h2⟩ := m_clE hf
  have h3 := he _ h1
  dsimp only at h3
  cases h3
  exact ⟨y, h1, h2⟩
theorem ms_ext {o : Int32 × MS} {I : Nat → Int32} {A : Nat → Nat → Int32} (h : FrS [] [] I A o.2.1 o.2.2) : o.2 = (I, A) := by
  obtain ⟨r, T, U⟩ := o
  have h1 : T = I := funext (fun i => h.1 i (fun h9 => by cases h9))
  have h2 : U = A := funext (fun j => h.2 j (fun h9 => by cases h9))
  subst h1
  subst h2
  rfl

theorem ro_X0_kindAt_0 {o : Int32 × ZS} {x0 : Nat} {x1 : Int32} {S : ZS}  (hf : f_X0_kindAt_0 x0 x1 S = some o) : o.2 = S := by
  have h_S : S = S := rfl
  unfold f_X0_kindAt_0 at hf
  obtain ⟨-, hf⟩ := m_chkE hf
  obtain ⟨b1, -, hf⟩ := m_calE hf
  obtain ⟨-, hf⟩ := m_chkE hf
  obtain ⟨-, hf⟩ := m_chkE hf
  obtain ⟨v2, -, hf⟩ := m_bndE hf
  obtain ⟨v3, -, hf⟩ := m_bndE hf
  cases hf
  exact h_S
theorem ro_X0_kindAt {o : Int32 × ZS} {x0 : Nat} {x1 : Int32} {S : ZS}  (hf : f_X0_kindAt x0 x1 S = some o) : o.2 = S := by
  have h_S : S = S := rfl
  unfold f_X0_kindAt at hf
  exact (ro_X0_kindAt_0  hf).trans h_S
theorem ro_X0_kingOf_15 {o : Int32 × ZS} {t0 : Int32} {S : ZS}  (hf : f_X0_kingOf_15 t0 S = some o) : o.2 = S := by
  have h_S : S = S := rfl
  unfold f_X0_kingOf_15 at hf
  cases hf
  exact h_S
theorem ro_X0_kingOf_0 {o : Int32 × ZS} {x0 : Nat} {x1 : Int32} {S : ZS}  (hf : f_X0_kingOf_0 x0 x1 S = some o) : o.2 = S := by
  have h_S : S = S := rfl
  unfold f_X0_kingOf_0 at hf
  rcases m_ifE hf with ⟨-, hf⟩ | ⟨-, hf⟩
  ·
    obtain ⟨-, hf⟩ := m_chkE hf
    exact (ro_X0_kingOf_15  hf).trans h_S
  ·
    obtain ⟨-, hf⟩ := m_chkE hf
    exact (ro_X0_kingOf_15  hf).trans h_S
theorem ro_X0_kingOf {o : Int32 × ZS} {x0 : Nat} {x1 : Int32} {S : ZS}  (hf : f_X0_kingOf x0 x1 S = some o) : o.2 = S := by
  have h_S : S = S := rfl
  unfold f_X0_kingOf at hf
  exact (ro_X0_kingOf_0  hf).trans h_S
theorem ro_X0_attacks_235 {o : Int32 × ZS} {S : ZS}  (hf : f_X0_attacks_235 S = some o) : o.2 = S := by
  have h_S : S = S := rfl
  unfold f_X0_attacks_235 at hf
  obtain ⟨-, hf⟩ := m_chkE hf
  cases hf
  exact h_S
theorem ro_X0_attacks_281s {o : Int32 × ZS} {self281 : Nat → Int32 → Int32 → Int32 → Int32 → ZS → Option (Int32 × ZS)} {x0 : Nat} {x1 : Int32} {x8 : Int32} {x11 : Int32} {x12 : Int32} {S : ZS} (hself281 : ∀ (z0 : Nat) (z1 : Int32) (z2 : Int32) (z3 : Int32) (z4 : Int32) (S : ZS) (o : Int32 × ZS), self281 z0 z1 z2 z3 z4 S = some o → o.2 = S) (hf : f_X0_attacks_281s self281 x0 x1 x8 x11 x12 S = some o) : o.2 = S := by
  have h_S : S = S := rfl
  unfold f_X0_attacks_281s at hf
  rcases m_ifE hf with ⟨-, hf⟩ | ⟨-, hf⟩
  ·
    obtain ⟨-, hf⟩ := m_chkE hf
    cases hf
    exact h_S
  ·
    obtain ⟨-, hf⟩ := m_chkE hf
    obtain ⟨b1, -, hf⟩ := m_calE hf
    obtain ⟨v2, -, hf⟩ := m_bndE hf
    obtain ⟨v3, -, hf⟩ := m_bndE hf
    obtain ⟨-, hf⟩ := m_chkE hf
    obtain ⟨-, hf⟩ := m_chkE hf
    obtain ⟨v4, -, hf⟩ := m_bndE hf
    rcases m_ifE hf with ⟨-, hf⟩ | ⟨-, hf⟩
    ·
      obtain ⟨v5, -, hf⟩ := m_bndE hf
      exact (hself281 _ _ _ _ _ _ _ hf).trans h_S
    ·
      obtain ⟨-, hf⟩ := m_chkE hf
      cases hf
      exact h_S
theorem ro_X0_attacks_281   (n : Nat) : ∀ (y0 : Nat) (y1 : Int32) (y2 : Int32) (y3 : Int32) (y4 : Int32) (S : ZS) (o : Int32 × ZS), f_X0_attacks_281  n y0 y1 y2 y3 y4 S = some o → o.2 = S := by
  induction n with
  | zero => intro y0 y1 y2 y3 y4 S o hf; cases hf
  | succ n ih => intro y0 y1 y2 y3 y4 S o hf; exact ro_X0_attacks_281s  ih hf
theorem ro_X0_attacks_275 {o : Int32 × ZS} {x0 : Nat} {x1 : Int32} {x8 : Int32} {t0 : Int32} {t1 : Int32} {S : ZS}  (hf : f_X0_attacks_275 x0 x1 x8 t0 t1 S = some o) : o.2 = S := by
  have h_S : S = S := rfl
  unfold f_X0_attacks_275 at hf
  obtain ⟨v1, -, hf⟩ := m_bndE hf
  exact (ro_X0_attacks_281  _ _ _ _ _ _ _ _ hf).trans h_S
theorem ro_X0_attacks_254 {o : Int32 × ZS} {x0 : Nat} {x1 : Int32} {x4 : Int32} {x8 : Int32} {t0 : Int32} {S : ZS}  (hf : f_X0_attacks_254 x0 x1 x4 x8 t0 S = some o) : o.2 = S := by
  have h_S : S = S := rfl
  unfold f_X0_attacks_254 at hf
  rcases m_ifE hf with ⟨-, hf⟩ | ⟨-, hf⟩
  ·
    rcases m_ifE hf with ⟨-, hf⟩ | ⟨-, hf⟩
    ·
      exact (ro_X0_attacks_275  hf).trans h_S
    ·
      exact (ro_X0_attacks_275  hf).trans h_S
  ·
    exact (ro_X0_attacks_275  hf).trans h_S
theorem ro_X0_attacks_223 {o : Int32 × ZS} {x0 : Nat} {x1 : Int32} {x3 : Int32} {x4 : Int32} {x8 : Int32} {t0 : Int32} {S : ZS}  (hf : f_X0_attacks_223 x0 x1 x3 x4 x8 t0 S = some o) : o.2 = S := by
  have h_S : S = S := rfl
  unfold f_X0_attacks_223 at hf
  rcases m_ifE hf with ⟨-, hf⟩ | ⟨-, hf⟩
  ·
    exact (ro_X0_attacks_235  hf).trans h_S
  ·
    rcases m_ifE hf with ⟨-, hf⟩ | ⟨-, hf⟩
    ·
      exact (ro_X0_attacks_235  hf).trans h_S
    ·
      rcases m_ifE hf with ⟨-, hf⟩ | ⟨-, hf⟩
      ·
        rcases m_ifE hf with ⟨-, hf⟩ | ⟨-, hf⟩
        ·
          exact (ro_X0_attacks_254  hf).trans h_S
        ·
          exact (ro_X0_attacks_254  hf).trans h_S
      ·
        exact (ro_X0_attacks_254  hf).trans h_S
theorem ro_X0_attacks_222 {o : Int32 × ZS} {x0 : Nat} {x1 : Int32} {x3 : Int32} {x4 : Int32} {x8 : Int32} {S : ZS}  (hf : f_X0_attacks_222 x0 x1 x3 x4 x8 S = some o) : o.2 = S := by
  have h_S : S = S := rfl
  unfold f_X0_attacks_222 at hf
  exact (ro_X0_attacks_223  hf).trans h_S
theorem ro_X0_attacks_218 {o : Int32 × ZS} {x0 : Nat} {x1 : Int32} {x3 : Int32} {x4 : Int32} {x8 : Int32} {S : ZS}  (hf : f_X0_attacks_218 x0 x1 x3 x4 x8 S = some o) : o.2 = S := by
  have h_S : S = S := rfl
  unfold f_X0_attacks_218 at hf
  exact (ro_X0_attacks_223  hf).trans h_S
theorem ro_X0_attacks_191 {o : Int32 × ZS} {x0 : Nat} {x1 : Int32} {x3 : Int32} {x4 : Int32} {x8 : Int32} {S : ZS}  (hf : f_X0_attacks_191 x0 x1 x3 x4 x8 S = some o) : o.2 = S := by
  have h_S : S = S := rfl
  unfold f_X0_attacks_191 at hf
  exact (ro_X0_attacks_223  hf).trans h_S
theorem ro_X0_attacks_172 {o : Int32 × ZS} {x0 : Nat} {x1 : Int32} {x3 : Int32} {x4 : Int32} {x5 : Int32} {x6 : Int32} {x7 : Int32} {x8 : Int32} {t0 : Int32} {S : ZS}  (hf : f_X0_attacks_172 x0 x1 x3 x4 x5 x6 x7 x8 t0 S = some o) : o.2 = S := by
  have h_S : S = S := rfl
  unfold f_X0_attacks_172 at hf
  rcases m_ifE hf with ⟨-, hf⟩ | ⟨-, hf⟩
  ·
    rcases m_ifE hf with ⟨-, hf⟩ | ⟨-, hf⟩
    ·
      rcases m_ifE hf with ⟨-, hf⟩ | ⟨-, hf⟩
      ·
        exact (ro_X0_attacks_218  hf).trans h_S
      ·
        rcases m_ifE hf with ⟨-, hf⟩ | ⟨-, hf⟩
        ·
          exact (ro_X0_attacks_218  hf).trans h_S
        ·
          exact (ro_X0_attacks_222  hf).trans h_S
    ·
      exact (ro_X0_attacks_222  hf).trans h_S
  ·
    rcases m_ifE hf with ⟨-, hf⟩ | ⟨-, hf⟩
    ·
      exact (ro_X0_attacks_191  hf).trans h_S
    ·
      rcases m_ifE hf with ⟨-, hf⟩ | ⟨-, hf⟩
      ·
        exact (ro_X0_attacks_191  hf).trans h_S
      ·
        exact (ro_X0_attacks_223  hf).trans h_S
theorem ro_X0_attacks_167 {o : Int32 × ZS} {x0 : Nat} {x1 : Int32} {x3 : Int32} {x4 : Int32} {x5 : Int32} {x6 : Int32} {x7 : Int32} {x8 : Int32} {S : ZS}  (hf : f_X0_attacks_167 x0 x1 x3 x4 x5 x6 x7 x8 S = some o) : o.2 = S := by
  have h_S : S = S := rfl
  unfold f_X0_attacks_167 at hf
  exact (ro_X0_attacks_172  hf).trans h_S
theorem ro_X0_attacks_156 {o : Int32 × ZS} {t0 : Int32} {S : ZS}  (hf : f_X0_attacks_156 t0 S = some o) : o.2 = S := by
  have h_S : S = S := rfl
  unfold f_X0_attacks_156 at hf
  obtain ⟨-, hf⟩ := m_chkE hf
  cases hf
  exact h_S
theorem ro_X0_attacks_136 {o : Int32 × ZS} {x0 : Nat} {x1 : Int32} {x3 : Int32} {x4 : Int32} {x5 : Int32} {x6 : Int32} {x7 : Int32} {t0 : Int32} {S : ZS}  (hf : f_X0_attacks_136 x0 x1 x3 x4 x5 x6 x7 t0 S = some o) : o.2 = S := by
  have h_S : S = S := rfl
  unfold f_X0_attacks_136 at hf
  rcases m_ifE hf with ⟨-, hf⟩ | ⟨-, hf⟩
  ·
    rcases m_ifE hf with ⟨-, hf⟩ | ⟨-, hf⟩
    ·
      exact (ro_X0_attacks_156  hf).trans h_S
    ·
      exact (ro_X0_attacks_156  hf).trans h_S
  ·
    rcases m_ifE hf with ⟨-, hf⟩ | ⟨-, hf⟩
    ·
      exact (ro_X0_attacks_167  hf).trans h_S
    ·
      rcases m_ifE hf with ⟨-, hf⟩ | ⟨-, hf⟩
      ·
        exact (ro_X0_attacks_167  hf).trans h_S
      ·
        exact (ro_X0_attacks_172  hf).trans h_S
theorem ro_X0_attacks_120 {o : Int32 × ZS} {x0 : Nat} {x1 : Int32} {x3 : Int32} {x4 : Int32} {x5 : Int32} {x6 : Int32} {t0 : Int32} {S : ZS}  (hf : f_X0_attacks_120 x0 x1 x3 x4 x5 x6 t0 S = some o) : o.2 = S := by
  have h_S : S = S := rfl
  unfold f_X0_attacks_120 at hf
  rcases m_ifE hf with ⟨-, hf⟩ | ⟨-, hf⟩
  ·
    exact (ro_X0_attacks_136  hf).trans h_S
  ·
    exact (ro_X0_attacks_136  hf).trans h_S
theorem ro_X0_attacks_105 {o : Int32 × ZS} {x0 : Nat} {x1 : Int32} {x3 : Int32} {x4 : Int32} {x5 : Int32} {t0 : Int32} {S : ZS}  (hf : f_X0_attacks_105 x0 x1 x3 x4 x5 t0 S = some o) : o.2 = S := by
  have h_S : S = S := rfl
  unfold f_X0_attacks_105 at hf
  rcases m_ifE hf with ⟨-, hf⟩ | ⟨-, hf⟩
  ·
    exact (ro_X0_attacks_120  hf).trans h_S
  ·
    obtain ⟨v1, -, hf⟩ := m_bndE hf
    exact (ro_X0_attacks_120  hf).trans h_S
theorem ro_X0_attacks_94 {o : Int32 × ZS} {t0 : Int32} {S : ZS}  (hf : f_X0_attacks_94 t0 S = some o) : o.2 = S := by
  have h_S : S = S := rfl
  unfold f_X0_attacks_94 at hf
  obtain ⟨-, hf⟩ := m_chkE hf
  cases hf
  exact h_S
theorem ro_X0_attacks_69 {o : Int32 × ZS} {t0 : Int32} {S : ZS}  (hf : f_X0_attacks_69 t0 S = some o) : o.2 = S := by
  have h_S : S = S := rfl
  unfold f_X0_attacks_69 at hf
  obtain ⟨-, hf⟩ := m_chkE hf
  cases hf
  exact h_S
theorem ro_X0_attacks_68 {o : Int32 × ZS} {S : ZS}  (hf : f_X0_attacks_68 S = some o) : o.2 = S := by
  have h_S : S = S := rfl
  unfold f_X0_attacks_68 at hf
  exact (ro_X0_attacks_69  hf).trans h_S
theorem ro_X0_attacks_54 {o : Int32 × ZS} {x3 : Int32} {t0 : Int32} {t1 : Int32} {S : ZS}  (hf : f_X0_attacks_54 x3 t0 t1 S = some o) : o.2 = S := by
  have h_S : S = S := rfl
  unfold f_X0_attacks_54 at hf
  rcases m_ifE hf with ⟨-, hf⟩ | ⟨-, hf⟩
  ·
    obtain ⟨v1, -, hf⟩ := m_bndE hf
    rcases m_ifE hf with ⟨-, hf⟩ | ⟨-, hf⟩
    ·
      exact (ro_X0_attacks_69  hf).trans h_S
    ·
      exact (ro_X0_attacks_68  hf).trans h_S
  ·
    exact (ro_X0_attacks_68  hf).trans h_S
theorem ro_X0_attacks_0 {o : Int32 × ZS} {x0 : Nat} {x1 : Int32} {x2 : Int32} {S : ZS}  (hf : f_X0_attacks_0 x0 x1 x2 S = some o) : o.2 = S := by
  have h_S : S = S := rfl
  unfold f_X0_attacks_0 at hf
  obtain ⟨v1, -, hf⟩ := m_bndE hf
  obtain ⟨v2, -, hf⟩ := m_bndE hf
  obtain ⟨v3, -, hf⟩ := m_bndE hf
  obtain ⟨v4, -, hf⟩ := m_bndE hf
  obtain ⟨v5, -, hf⟩ := m_bndE hf
  obtain ⟨v6, -, hf⟩ := m_bndE hf
  obtain ⟨-, hf⟩ := m_chkE hf
  obtain ⟨b7, -, hf⟩ := m_calE hf
  obtain ⟨-, hf⟩ := m_chkE hf
  obtain ⟨-, hf⟩ := m_chkE hf
  obtain ⟨v8, -, hf⟩ := m_bndE hf
  obtain ⟨v9, -, hf⟩ := m_bndE hf
  rcases m_ifE hf with ⟨-, hf⟩ | ⟨-, hf⟩
  ·
    obtain ⟨-, hf⟩ := m_chkE hf
    obtain ⟨b14, -, hf⟩ := m_calE hf
    obtain ⟨-, hf⟩ := m_chkE hf
    obtain ⟨-, hf⟩ := m_chkE hf
    obtain ⟨v15, -, hf⟩ := m_bndE hf
    rcases m_ifE hf with ⟨-, hf⟩ | ⟨-, hf⟩
    ·
      exact (ro_X0_attacks_54  hf).trans h_S
    ·
      exact (ro_X0_attacks_54  hf).trans h_S
  ·
    rcases m_ifE hf with ⟨-, hf⟩ | ⟨-, hf⟩
    ·
      obtain ⟨v11, -, hf⟩ := m_bndE hf
      obtain ⟨v12, -, hf⟩ := m_bndE hf
      obtain ⟨v13, -, hf⟩ := m_bndE hf
      rcases m_ifE hf with ⟨-, hf⟩ | ⟨-, hf⟩
      ·
        exact (ro_X0_attacks_94  hf).trans h_S
      ·
        exact (ro_X0_attacks_94  hf).trans h_S
    ·
      rcases m_ifE hf with ⟨-, hf⟩ | ⟨-, hf⟩
      ·
        exact (ro_X0_attacks_105  hf).trans h_S
      ·
        obtain ⟨v10, -, hf⟩ := m_bndE hf
        exact (ro_X0_attacks_105  hf).trans h_S
theorem ro_X0_attacks {o : Int32 × ZS} {x0 : Nat} {x1 : Int32} {x2 : Int32} {S : ZS}  (hf : f_X0_attacks x0 x1 x2 S = some o) : o.2 = S := by
  have h_S : S = S := rfl
  unfold f_X0_attacks at hf
  exact (ro_X0_attacks_0  hf).trans h_S
theorem ro_X0_attacked_40 {o : Int32 × ZS} {self2 : Nat → Int32 → Int32 → Int32 → ZS → Option (Int32 × ZS)} {x0 : Nat} {x1 : Int32} {x2 : Int32} {x3 : Int32} {S : ZS} (hself2 : ∀ (z0 : Nat) (z1 : Int32) (z2 : Int32) (z3 : Int32) (S : ZS) (o : Int32 × ZS), self2 z0 z1 z2 z3 S = some o → o.2 = S) (hf : f_X0_attacked_40 self2 x0 x1 x2 x3 S = some o) : o.2 = S := by
  have h_S : S = S := rfl
  unfold f_X0_attacked_40 at hf
  obtain ⟨v1, -, hf⟩ := m_bndE hf
  exact (hself2 _ _ _ _ _ _ hf).trans h_S
theorem ro_X0_attacked_2s {o : Int32 × ZS} {self2 : Nat → Int32 → Int32 → Int32 → ZS → Option (Int32 × ZS)} {x0 : Nat} {x1 : Int32} {x2 : Int32} {x3 : Int32} {S : ZS} (hself2 : ∀ (z0 : Nat) (z1 : Int32) (z2 : Int32) (z3 : Int32) (S : ZS) (o : Int32 × ZS), self2 z0 z1 z2 z3 S = some o → o.2 = S) (hf : f_X0_attacked_2s self2 x0 x1 x2 x3 S = some o) : o.2 = S := by
  have h_S : S = S := rfl
  unfold f_X0_attacked_2s at hf
  rcases m_ifE hf with ⟨-, hf⟩ | ⟨-, hf⟩
  ·
    obtain ⟨-, hf⟩ := m_chkE hf
    cases hf
    exact h_S
  ·
    obtain ⟨-, hf⟩ := m_chkE hf
    obtain ⟨b1, -, hf⟩ := m_calE hf
    obtain ⟨-, hf⟩ := m_chkE hf
    obtain ⟨-, hf⟩ := m_chkE hf
    obtain ⟨v2, -, hf⟩ := m_bndE hf
    rcases m_ifE hf with ⟨-, hf⟩ | ⟨-, hf⟩
    ·
      exact (ro_X0_attacked_40 hself2 hf).trans h_S
    ·
      obtain ⟨-, hf⟩ := m_chkE hf
      obtain ⟨b3, -, hf⟩ := m_calE hf
      obtain ⟨-, hf⟩ := m_chkE hf
      obtain ⟨-, hf⟩ := m_chkE hf
      obtain ⟨v4, -, hf⟩ := m_bndE hf
      obtain ⟨v5, -, hf⟩ := m_bndE hf
      rcases m_ifE hf with ⟨-, hf⟩ | ⟨-, hf⟩
      ·
        obtain ⟨-, hf⟩ := m_chkE hf
        obtain ⟨o6, ho, hf⟩ := m_calE hf
        have h_o6 := (ro_X0_attacks ho).trans h_S
        clear ho
        rcases m_ifE hf with ⟨-, hf⟩ | ⟨-, hf⟩
        ·
          exact (ro_X0_attacked_40 hself2 hf).trans h_o6
        ·
          obtain ⟨-, hf⟩ := m_chkE hf
          cases hf
          exact h_o6
      ·
        exact (ro_X0_attacked_40 hself2 hf).trans h_S
theorem ro_X0_attacked_2   (n : Nat) : ∀ (y0 : Nat) (y1 : Int32) (y2 : Int32) (y3 : Int32) (S : ZS) (o : Int32 × ZS), f_X0_attacked_2  n y0 y1 y2 y3 S = some o → o.2 = S := by
  induction n with
  | zero => intro y0 y1 y2 y3 S o hf; cases hf
  | succ n ih => intro y0 y1 y2 y3 S o hf; exact ro_X0_attacked_2s  ih hf
theorem ro_X0_attacked_0 {o : Int32 × ZS} {x0 : Nat} {x1 : Int32} {x2 : Int32} {S : ZS}  (hf : f_X0_attacked_0 x0 x1 x2 S = some o) : o.2 = S := by
  have h_S : S = S := rfl
  unfold f_X0_attacked_0 at hf
  exact (ro_X0_attacked_2  _ _ _ _ _ _ _ hf).trans h_S
theorem ro_X0_attacked {o : Int32 × ZS} {x0 : Nat} {x1 : Int32} {x2 : Int32} {S : ZS}  (hf : f_X0_attacked x0 x1 x2 S = some o) : o.2 = S := by
  have h_S : S = S := rfl
  unfold f_X0_attacked at hf
  exact (ro_X0_attacked_0  hf).trans h_S
theorem ro_X0_pawnReaches_122 {o : Int32 × ZS} {t0 : Int32} {S : ZS}  (hf : f_X0_pawnReaches_122 t0 S = some o) : o.2 = S := by
  have h_S : S = S := rfl
  unfold f_X0_pawnReaches_122 at hf
  obtain ⟨-, hf⟩ := m_chkE hf
  cases hf
  exact h_S
theorem ro_X0_pawnReaches_121 {o : Int32 × ZS} {S : ZS}  (hf : f_X0_pawnReaches_121 S = some o) : o.2 = S := by
  have h_S : S = S := rfl
  unfold f_X0_pawnReaches_121 at hf
  exact (ro_X0_pawnReaches_122  hf).trans h_S
theorem ro_X0_pawnReaches_117 {o : Int32 × ZS} {S : ZS}  (hf : f_X0_pawnReaches_117 S = some o) : o.2 = S := by
  have h_S : S = S := rfl
  unfold f_X0_pawnReaches_117 at hf
  exact (ro_X0_pawnReaches_122  hf).trans h_S
theorem ro_X0_pawnReaches_90 {o : Int32 × ZS} {t0 : Int32} {S : ZS}  (hf : f_X0_pawnReaches_90 t0 S = some o) : o.2 = S := by
  have h_S : S = S := rfl
  unfold f_X0_pawnReaches_90 at hf
  obtain ⟨-, hf⟩ := m_chkE hf
  cases hf
  exact h_S
theorem ro_X0_pawnReaches_89 {o : Int32 × ZS} {S : ZS}  (hf : f_X0_pawnReaches_89 S = some o) : o.2 = S := by
  have h_S : S = S := rfl
  unfold f_X0_pawnReaches_89 at hf
  exact (ro_X0_pawnReaches_90  hf).trans h_S
theorem ro_X0_pawnReaches_62 {o : Int32 × ZS} {x0 : Nat} {x1 : Int32} {x2 : Int32} {x3 : Int32} {t0 : Int32} {t1 : Int32} {S : ZS}  (hf : f_X0_pawnReaches_62 x0 x1 x2 x3 t0 t1 S = some o) : o.2 = S := by
  have h_S : S = S := rfl
  unfold f_X0_pawnReaches_62 at hf
  rcases m_ifE hf with ⟨-, hf⟩ | ⟨-, hf⟩
  ·
    obtain ⟨-, hf⟩ := m_chkE hf
    obtain ⟨b1, -, hf⟩ := m_calE hf
    obtain ⟨v2, -, hf⟩ := m_bndE hf
    obtain ⟨-, hf⟩ := m_chkE hf
    obtain ⟨-, hf⟩ := m_chkE hf
    obtain ⟨v3, -, hf⟩ := m_bndE hf
    rcases m_ifE hf with ⟨-, hf⟩ | ⟨-, hf⟩
    ·
      obtain ⟨-, hf⟩ := m_chkE hf
      obtain ⟨b4, -, hf⟩ := m_calE hf
      obtain ⟨-, hf⟩ := m_chkE hf
      obtain ⟨-, hf⟩ := m_chkE hf
      obtain ⟨v5, -, hf⟩ := m_bndE hf
      rcases m_ifE hf with ⟨-, hf⟩ | ⟨-, hf⟩
      ·
        exact (ro_X0_pawnReaches_90  hf).trans h_S
      ·
        exact (ro_X0_pawnReaches_89  hf).trans h_S
    ·
      exact (ro_X0_pawnReaches_89  hf).trans h_S
  ·
    exact (ro_X0_pawnReaches_89  hf).trans h_S
theorem ro_X0_pawnReaches_36 {o : Int32 × ZS} {t0 : Int32} {S : ZS}  (hf : f_X0_pawnReaches_36 t0 S = some o) : o.2 = S := by
  have h_S : S = S := rfl
  unfold f_X0_pawnReaches_36 at hf
  obtain ⟨-, hf⟩ := m_chkE hf
  cases hf
  exact h_S
theorem ro_X0_pawnReaches_14 {o : Int32 × ZS} {x0 : Nat} {x1 : Int32} {x2 : Int32} {t0 : Int32} {S : ZS}  (hf : f_X0_pawnReaches_14 x0 x1 x2 t0 S = some o) : o.2 = S := by
  have h_S : S = S := rfl
  unfold f_X0_pawnReaches_14 at hf
  obtain ⟨v1, -, hf⟩ := m_bndE hf
  rcases m_ifE hf with ⟨-, hf⟩ | ⟨-, hf⟩
  ·
    obtain ⟨-, hf⟩ := m_chkE hf
    obtain ⟨b8, -, hf⟩ := m_calE hf
    obtain ⟨-, hf⟩ := m_chkE hf
    obtain ⟨-, hf⟩ := m_chkE hf
    obtain ⟨v9, -, hf⟩ := m_bndE hf
    rcases m_ifE hf with ⟨-, hf⟩ | ⟨-, hf⟩
    ·
      exact (ro_X0_pawnReaches_36  hf).trans h_S
    ·
      exact (ro_X0_pawnReaches_36  hf).trans h_S
  ·
    obtain ⟨v2, -, hf⟩ := m_bndE hf
    obtain ⟨v3, -, hf⟩ := m_bndE hf
    rcases m_ifE hf with ⟨-, hf⟩ | ⟨-, hf⟩
    ·
      obtain ⟨v7, -, hf⟩ := m_bndE hf
      obtain ⟨-, hf⟩ := m_chkE hf
      rcases m_ifE hf with ⟨-, hf⟩ | ⟨-, hf⟩
      ·
        exact (ro_X0_pawnReaches_62  hf).trans h_S
      ·
        exact (ro_X0_pawnReaches_62  hf).trans h_S
    ·
      obtain ⟨-, hf⟩ := m_chkE hf
      obtain ⟨o4, ho, hf⟩ := m_calE hf
      have h_o4 := (ro_X0_attacks ho).trans h_S
      clear ho
      rcases m_ifE hf with ⟨-, hf⟩ | ⟨-, hf⟩
      ·
        exact (ro_X0_pawnReaches_121  hf).trans h_o4
      ·
        obtain ⟨-, hf⟩ := m_chkE hf
        obtain ⟨b5, -, hf⟩ := m_calE hf
        obtain ⟨-, hf⟩ := m_chkE hf
        obtain ⟨-, hf⟩ := m_chkE hf
        obtain ⟨v6, -, hf⟩ := m_bndE hf
        rcases m_ifE hf with ⟨-, hf⟩ | ⟨-, hf⟩
        ·
          obtain ⟨-, hf⟩ := m_chkE hf
          rcases m_ifE hf with ⟨-, hf⟩ | ⟨-, hf⟩
          ·
            exact (ro_X0_pawnReaches_117  hf).trans h_o4
          ·
            exact (ro_X0_pawnReaches_121  hf).trans h_o4
        ·
          exact (ro_X0_pawnReaches_117  hf).trans h_o4
theorem ro_X0_pawnReaches_0 {o : Int32 × ZS} {x0 : Nat} {x1 : Int32} {x2 : Int32} {S : ZS}  (hf : f_X0_pawnReaches_0 x0 x1 x2 S = some o) : o.2 = S := by
  have h_S : S = S := rfl
  unfold f_X0_pawnReaches_0 at hf
  obtain ⟨-, hf⟩ := m_chkE hf
  rcases m_ifE hf with ⟨-, hf⟩ | ⟨-, hf⟩
  ·
    exact (ro_X0_pawnReaches_14  hf).trans h_S
  ·
    exact (ro_X0_pawnReaches_14  hf).trans h_S
theorem ro_X0_pawnReaches {o : Int32 × ZS} {x0 : Nat} {x1 : Int32} {x2 : Int32} {S : ZS}  (hf : f_X0_pawnReaches x0 x1 x2 S = some o) : o.2 = S := by
  have h_S : S = S := rfl
  unfold f_X0_pawnReaches at hf
  exact (ro_X0_pawnReaches_0  hf).trans h_S
theorem ro_X0_castles_42 {o : Int32 × ZS} {t0 : Int32} {S : ZS}  (hf : f_X0_castles_42 t0 S = some o) : o.2 = S := by
  have h_S : S = S := rfl
  unfold f_X0_castles_42 at hf
  obtain ⟨-, hf⟩ := m_chkE hf
  cases hf
  exact h_S
theorem ro_X0_castles_41 {o : Int32 × ZS} {S : ZS}  (hf : f_X0_castles_41 S = some o) : o.2 = S := by
  have h_S : S = S := rfl
  unfold f_X0_castles_41 at hf
  exact (ro_X0_castles_42  hf).trans h_S
theorem ro_X0_castles_37 {o : Int32 × ZS} {S : ZS}  (hf : f_X0_castles_37 S = some o) : o.2 = S := by
  have h_S : S = S := rfl
  unfold f_X0_castles_37 at hf
  exact (ro_X0_castles_42  hf).trans h_S
theorem ro_X0_castles_0 {o : Int32 × ZS} {x0 : Nat} {x1 : Int32} {x2 : Int32} {S : ZS}  (hf : f_X0_castles_0 x0 x1 x2 S = some o) : o.2 = S := by
  have h_S : S = S := rfl
  unfold f_X0_castles_0 at hf
  obtain ⟨-, hf⟩ := m_chkE hf
  obtain ⟨b1, -, hf⟩ := m_calE hf
  obtain ⟨-, hf⟩ := m_chkE hf
  obtain ⟨-, hf⟩ := m_chkE hf
  obtain ⟨v2, -, hf⟩ := m_bndE hf
  obtain ⟨v3, -, hf⟩ := m_bndE hf
  rcases m_ifE hf with ⟨-, hf⟩ | ⟨-, hf⟩
  ·
    obtain ⟨v4, -, hf⟩ := m_bndE hf
    obtain ⟨v5, -, hf⟩ := m_bndE hf
    rcases m_ifE hf with ⟨-, hf⟩ | ⟨-, hf⟩
    ·
      obtain ⟨v6, -, hf⟩ := m_bndE hf
      rcases m_ifE hf with ⟨-, hf⟩ | ⟨-, hf⟩
      ·
        exact (ro_X0_castles_37  hf).trans h_S
      ·
        obtain ⟨v7, -, hf⟩ := m_bndE hf
        rcases m_ifE hf with ⟨-, hf⟩ | ⟨-, hf⟩
        ·
          exact (ro_X0_castles_37  hf).trans h_S
        ·
          exact (ro_X0_castles_41  hf).trans h_S
    ·
      exact (ro_X0_castles_41  hf).trans h_S
  ·
    exact (ro_X0_castles_41  hf).trans h_S
theorem ro_X0_castles {o : Int32 × ZS} {x0 : Nat} {x1 : Int32} {x2 : Int32} {S : ZS}  (hf : f_X0_castles x0 x1 x2 S = some o) : o.2 = S := by
  have h_S : S = S := rfl
  unfold f_X0_castles at hf
  exact (ro_X0_castles_0  hf).trans h_S
theorem ro_X0_castlingIsOpen_50 {o : Int32 × ZS} {S : ZS}  (hf : f_X0_castlingIsOpen_50 S = some o) : o.2 = S := by
  have h_S : S = S := rfl
  unfold f_X0_castlingIsOpen_50 at hf
  obtain ⟨-, hf⟩ := m_chkE hf
  cases hf
  exact h_S
theorem ro_X0_castlingIsOpen_123 {o : Int32 × ZS} {t0 : Int32} {S : ZS}  (hf : f_X0_castlingIsOpen_123 t0 S = some o) : o.2 = S := by
  have h_S : S = S := rfl
  unfold f_X0_castlingIsOpen_123 at hf
  obtain ⟨-, hf⟩ := m_chkE hf
  cases hf
  exact h_S
theorem ro_X0_castlingIsOpen_122 {o : Int32 × ZS} {S : ZS}  (hf : f_X0_castlingIsOpen_122 S = some o) : o.2 = S := by
  have h_S : S = S := rfl
  unfold f_X0_castlingIsOpen_122 at hf
  exact (ro_X0_castlingIsOpen_123  hf).trans h_S
theorem ro_X0_castlingIsOpen_84 {o : Int32 × ZS} {t0 : Int32} {S : ZS}  (hf : f_X0_castlingIsOpen_84 t0 S = some o) : o.2 = S := by
  have h_S : S = S := rfl
  unfold f_X0_castlingIsOpen_84 at hf
  obtain ⟨-, hf⟩ := m_chkE hf
  cases hf
  exact h_S
theorem ro_X0_castlingIsOpen_83 {o : Int32 × ZS} {S : ZS}  (hf : f_X0_castlingIsOpen_83 S = some o) : o.2 = S := by
  have h_S : S = S := rfl
  unfold f_X0_castlingIsOpen_83 at hf
  exact (ro_X0_castlingIsOpen_84  hf).trans h_S
theorem ro_X0_castlingIsOpen_38 {o : Int32 × ZS} {x0 : Nat} {x1 : Int32} {x2 : Int32} {x3 : Int32} {t0 : Int32} {t1 : Int32} {S : ZS}  (hf : f_X0_castlingIsOpen_38 x0 x1 x2 x3 t0 t1 S = some o) : o.2 = S := by
  have h_S : S = S := rfl
  unfold f_X0_castlingIsOpen_38 at hf
  rcases m_ifE hf with ⟨-, hf⟩ | ⟨-, hf⟩
  ·
    obtain ⟨-, hf⟩ := m_chkE hf
    obtain ⟨v1, -, hf⟩ := m_bndE hf
    rcases m_ifE hf with ⟨-, hf⟩ | ⟨-, hf⟩
    ·
      exact (ro_X0_castlingIsOpen_50  hf).trans h_S
    ·
      rcases m_ifE hf with ⟨-, hf⟩ | ⟨-, hf⟩
      ·
        obtain ⟨-, hf⟩ := m_chkE hf
        obtain ⟨b2, -, hf⟩ := m_calE hf
        obtain ⟨v3, -, hf⟩ := m_bndE hf
        obtain ⟨-, hf⟩ := m_chkE hf
        obtain ⟨-, hf⟩ := m_chkE hf
        obtain ⟨v4, -, hf⟩ := m_bndE hf
        rcases m_ifE hf with ⟨-, hf⟩ | ⟨-, hf⟩
        ·
          obtain ⟨-, hf⟩ := m_chkE hf
          obtain ⟨b5, -, hf⟩ := m_calE hf
          obtain ⟨v6, -, hf⟩ := m_bndE hf
          obtain ⟨-, hf⟩ := m_chkE hf
          obtain ⟨-, hf⟩ := m_chkE hf
          obtain ⟨v7, -, hf⟩ := m_bndE hf
          rcases m_ifE hf with ⟨-, hf⟩ | ⟨-, hf⟩
          ·
            obtain ⟨-, hf⟩ := m_chkE hf
            obtain ⟨b8, -, hf⟩ := m_calE hf
            obtain ⟨v9, -, hf⟩ := m_bndE hf
            obtain ⟨-, hf⟩ := m_chkE hf
            obtain ⟨-, hf⟩ := m_chkE hf
            obtain ⟨v10, -, hf⟩ := m_bndE hf
            rcases m_ifE hf with ⟨-, hf⟩ | ⟨-, hf⟩
            ·
              exact (ro_X0_castlingIsOpen_123  hf).trans h_S
            ·
              exact (ro_X0_castlingIsOpen_122  hf).trans h_S
          ·
            exact (ro_X0_castlingIsOpen_122  hf).trans h_S
        ·
          exact (ro_X0_castlingIsOpen_122  hf).trans h_S
      ·
        obtain ⟨-, hf⟩ := m_chkE hf
        obtain ⟨b11, -, hf⟩ := m_calE hf
        obtain ⟨v12, -, hf⟩ := m_bndE hf
        obtain ⟨-, hf⟩ := m_chkE hf
        obtain ⟨-, hf⟩ := m_chkE hf
        obtain ⟨v13, -, hf⟩ := m_bndE hf
        rcases m_ifE hf with ⟨-, hf⟩ | ⟨-, hf⟩
        ·
          obtain ⟨-, hf⟩ := m_chkE hf
          obtain ⟨b14, -, hf⟩ := m_calE hf
          obtain ⟨v15, -, hf⟩ := m_bndE hf
          obtain ⟨-, hf⟩ := m_chkE hf
          obtain ⟨-, hf⟩ := m_chkE hf
          obtain ⟨v16, -, hf⟩ := m_bndE hf
          rcases m_ifE hf with ⟨-, hf⟩ | ⟨-, hf⟩
          ·
            exact (ro_X0_castlingIsOpen_84  hf).trans h_S
          ·
            exact (ro_X0_castlingIsOpen_83  hf).trans h_S
        ·
          exact (ro_X0_castlingIsOpen_83  hf).trans h_S
  ·
    exact (ro_X0_castlingIsOpen_50  hf).trans h_S
theorem ro_X0_castlingIsOpen_22 {o : Int32 × ZS} {x0 : Nat} {x1 : Int32} {x2 : Int32} {t0 : Int32} {t1 : Int32} {S : ZS}  (hf : f_X0_castlingIsOpen_22 x0 x1 x2 t0 t1 S = some o) : o.2 = S := by
  have h_S : S = S := rfl
  unfold f_X0_castlingIsOpen_22 at hf
  obtain ⟨v1, -, hf⟩ := m_bndE hf
  obtain ⟨-, hf⟩ := m_chkE hf
  rcases m_ifE hf with ⟨-, hf⟩ | ⟨-, hf⟩
  ·
    exact (ro_X0_castlingIsOpen_38  hf).trans h_S
  ·
    exact (ro_X0_castlingIsOpen_38  hf).trans h_S
theorem ro_X0_castlingIsOpen_10 {o : Int32 × ZS} {x0 : Nat} {x1 : Int32} {x2 : Int32} {t0 : Int32} {S : ZS}  (hf : f_X0_castlingIsOpen_10 x0 x1 x2 t0 S = some o) : o.2 = S := by
  have h_S : S = S := rfl
  unfold f_X0_castlingIsOpen_10 at hf
  obtain ⟨-, hf⟩ := m_chkE hf
  rcases m_ifE hf with ⟨-, hf⟩ | ⟨-, hf⟩
  ·
    exact (ro_X0_castlingIsOpen_22  hf).trans h_S
  ·
    exact (ro_X0_castlingIsOpen_22  hf).trans h_S
theorem ro_X0_castlingIsOpen_0 {o : Int32 × ZS} {x0 : Nat} {x1 : Int32} {x2 : Int32} {S : ZS}  (hf : f_X0_castlingIsOpen_0 x0 x1 x2 S = some o) : o.2 = S := by
  have h_S : S = S := rfl
  unfold f_X0_castlingIsOpen_0 at hf
  rcases m_ifE hf with ⟨-, hf⟩ | ⟨-, hf⟩
  ·
    exact (ro_X0_castlingIsOpen_10  hf).trans h_S
  ·
    exact (ro_X0_castlingIsOpen_10  hf).trans h_S
theorem ro_X0_castlingIsOpen {o : Int32 × ZS} {x0 : Nat} {x1 : Int32} {x2 : Int32} {S : ZS}  (hf : f_X0_castlingIsOpen x0 x1 x2 S = some o) : o.2 = S := by
  have h_S : S = S := rfl
  unfold f_X0_castlingIsOpen at hf
  exact (ro_X0_castlingIsOpen_0  hf).trans h_S
theorem ro_X0_reaches_45 {o : Int32 × ZS} {S : ZS}  (hf : f_X0_reaches_45 S = some o) : o.2 = S := by
  have h_S : S = S := rfl
  unfold f_X0_reaches_45 at hf
  obtain ⟨-, hf⟩ := m_chkE hf
  cases hf
  exact h_S
theorem ro_X0_reaches_95 {o : Int32 × ZS} {t0 : Int32} {S : ZS}  (hf : f_X0_reaches_95 t0 S = some o) : o.2 = S := by
  have h_S : S = S := rfl
  unfold f_X0_reaches_95 at hf
  obtain ⟨-, hf⟩ := m_chkE hf
  cases hf
  exact h_S
theorem ro_X0_reaches_90 {o : Int32 × ZS} {S : ZS}  (hf : f_X0_reaches_90 S = some o) : o.2 = S := by
  have h_S : S = S := rfl
  unfold f_X0_reaches_90 at hf
  exact (ro_X0_reaches_95  hf).trans h_S
theorem ro_X0_reaches_94 {o : Int32 × ZS} {S : ZS}  (hf : f_X0_reaches_94 S = some o) : o.2 = S := by
  have h_S : S = S := rfl
  unfold f_X0_reaches_94 at hf
  exact (ro_X0_reaches_95  hf).trans h_S
theorem ro_X0_reaches_47 {o : Int32 × ZS} {x0 : Nat} {x1 : Int32} {x2 : Int32} {S : ZS}  (hf : f_X0_reaches_47 x0 x1 x2 S = some o) : o.2 = S := by
  have h_S : S = S := rfl
  unfold f_X0_reaches_47 at hf
  obtain ⟨-, hf⟩ := m_chkE hf
  obtain ⟨o1, ho, hf⟩ := m_calE hf
  have h_o1 := (ro_X0_kindAt ho).trans h_S
  clear ho
  rcases m_ifE hf with ⟨-, hf⟩ | ⟨-, hf⟩
  ·
    obtain ⟨-, hf⟩ := m_chkE hf
    obtain ⟨o5, ho, hf⟩ := m_calE hf
    have h_o5 := (ro_X0_pawnReaches ho).trans h_o1
    clear ho
    obtain ⟨-, hf⟩ := m_chkE hf
    cases hf
    exact h_o5
  ·
    obtain ⟨-, hf⟩ := m_chkE hf
    obtain ⟨o2, ho, hf⟩ := m_calE hf
    have h_o2 := (ro_X0_attacks ho).trans h_o1
    clear ho
    rcases m_ifE hf with ⟨-, hf⟩ | ⟨-, hf⟩
    ·
      obtain ⟨-, hf⟩ := m_chkE hf
      obtain ⟨o3, ho, hf⟩ := m_calE hf
      have h_o3 := (ro_X0_castles ho).trans h_o2
      clear ho
      rcases m_ifE hf with ⟨-, hf⟩ | ⟨-, hf⟩
      ·
        exact (ro_X0_reaches_94  hf).trans h_o3
      ·
        obtain ⟨-, hf⟩ := m_chkE hf
        obtain ⟨o4, ho, hf⟩ := m_calE hf
        have h_o4 := (ro_X0_castlingIsOpen ho).trans h_o3
        clear ho
        rcases m_ifE hf with ⟨-, hf⟩ | ⟨-, hf⟩
        ·
          exact (ro_X0_reaches_94  hf).trans h_o4
        ·
          exact (ro_X0_reaches_90  hf).trans h_o4
    ·
      exact (ro_X0_reaches_90  hf).trans h_o2
theorem ro_X0_reaches_0 {o : Int32 × ZS} {x0 : Nat} {x1 : Int32} {x2 : Int32} {S : ZS}  (hf : f_X0_reaches_0 x0 x1 x2 S = some o) : o.2 = S := by
  have h_S : S = S := rfl
  unfold f_X0_reaches_0 at hf
  obtain ⟨-, hf⟩ := m_chkE hf
  obtain ⟨b1, -, hf⟩ := m_calE hf
  obtain ⟨-, hf⟩ := m_chkE hf
  obtain ⟨-, hf⟩ := m_chkE hf
  obtain ⟨v2, -, hf⟩ := m_bndE hf
  rcases m_ifE hf with ⟨-, hf⟩ | ⟨-, hf⟩
  ·
    exact (ro_X0_reaches_45  hf).trans h_S
  ·
    obtain ⟨v3, -, hf⟩ := m_bndE hf
    obtain ⟨-, hf⟩ := m_chkE hf
    rcases m_ifE hf with ⟨-, hf⟩ | ⟨-, hf⟩
    ·
      obtain ⟨-, hf⟩ := m_chkE hf
      obtain ⟨b4, -, hf⟩ := m_calE hf
      obtain ⟨-, hf⟩ := m_chkE hf
      obtain ⟨-, hf⟩ := m_chkE hf
      obtain ⟨v5, -, hf⟩ := m_bndE hf
      rcases m_ifE hf with ⟨-, hf⟩ | ⟨-, hf⟩
      ·
        exact (ro_X0_reaches_47  hf).trans h_S
      ·
        obtain ⟨-, hf⟩ := m_chkE hf
        obtain ⟨b6, -, hf⟩ := m_calE hf
        obtain ⟨-, hf⟩ := m_chkE hf
        obtain ⟨-, hf⟩ := m_chkE hf
        obtain ⟨v7, -, hf⟩ := m_bndE hf
        obtain ⟨v8, -, hf⟩ := m_bndE hf
        obtain ⟨-, hf⟩ := m_chkE hf
        rcases m_ifE hf with ⟨-, hf⟩ | ⟨-, hf⟩
        ·
          exact (ro_X0_reaches_45  hf).trans h_S
        ·
          exact (ro_X0_reaches_47  hf).trans h_S
    ·
      exact (ro_X0_reaches_45  hf).trans h_S
theorem ro_X0_reaches {o : Int32 × ZS} {x0 : Nat} {x1 : Int32} {x2 : Int32} {S : ZS}  (hf : f_X0_reaches x0 x1 x2 S = some o) : o.2 = S := by
  have h_S : S = S := rfl
  unfold f_X0_reaches at hf
  exact (ro_X0_reaches_0  hf).trans h_S
theorem ro_X0_takes_34 {o : Int32 × ZS} {t0 : Int32} {S : ZS}  (hf : f_X0_takes_34 t0 S = some o) : o.2 = S := by
  have h_S : S = S := rfl
  unfold f_X0_takes_34 at hf
  obtain ⟨-, hf⟩ := m_chkE hf
  cases hf
  exact h_S
theorem ro_X0_takes_29 {o : Int32 × ZS} {S : ZS}  (hf : f_X0_takes_29 S = some o) : o.2 = S := by
  have h_S : S = S := rfl
  unfold f_X0_takes_29 at hf
  exact (ro_X0_takes_34  hf).trans h_S
theorem ro_X0_takes_33 {o : Int32 × ZS} {S : ZS}  (hf : f_X0_takes_33 S = some o) : o.2 = S := by
  have h_S : S = S := rfl
  unfold f_X0_takes_33 at hf
  exact (ro_X0_takes_34  hf).trans h_S
theorem ro_X0_takes_0 {o : Int32 × ZS} {x0 : Nat} {x1 : Int32} {x2 : Int32} {S : ZS}  (hf : f_X0_takes_0 x0 x1 x2 S = some o) : o.2 = S := by
  have h_S : S = S := rfl
  unfold f_X0_takes_0 at hf
  obtain ⟨-, hf⟩ := m_chkE hf
  obtain ⟨b1, -, hf⟩ := m_calE hf
  obtain ⟨-, hf⟩ := m_chkE hf
  obtain ⟨-, hf⟩ := m_chkE hf
  obtain ⟨v2, -, hf⟩ := m_bndE hf
  rcases m_ifE hf with ⟨-, hf⟩ | ⟨-, hf⟩
  ·
    obtain ⟨-, hf⟩ := m_chkE hf
    obtain ⟨o3, ho, hf⟩ := m_calE hf
    have h_o3 := (ro_X0_kindAt ho).trans h_S
    clear ho
    rcases m_ifE hf with ⟨-, hf⟩ | ⟨-, hf⟩
    ·
      obtain ⟨v4, -, hf⟩ := m_bndE hf
      obtain ⟨v5, -, hf⟩ := m_bndE hf
      rcases m_ifE hf with ⟨-, hf⟩ | ⟨-, hf⟩
      ·
        exact (ro_X0_takes_33  hf).trans h_o3
      ·
        exact (ro_X0_takes_29  hf).trans h_o3
    ·
      exact (ro_X0_takes_33  hf).trans h_o3
  ·
    exact (ro_X0_takes_29  hf).trans h_S
theorem ro_X0_takes {o : Int32 × ZS} {x0 : Nat} {x1 : Int32} {x2 : Int32} {S : ZS}  (hf : f_X0_takes x0 x1 x2 S = some o) : o.2 = S := by
  have h_S : S = S := rfl
  unfold f_X0_takes at hf
  exact (ro_X0_takes_0  hf).trans h_S
theorem ro_X0_becomesAnother_26 {o : Int32 × ZS} {t0 : Int32} {S : ZS}  (hf : f_X0_becomesAnother_26 t0 S = some o) : o.2 = S := by
  have h_S : S = S := rfl
  unfold f_X0_becomesAnother_26 at hf
  obtain ⟨-, hf⟩ := m_chkE hf
  cases hf
  exact h_S
theorem ro_X0_becomesAnother_25 {o : Int32 × ZS} {S : ZS}  (hf : f_X0_becomesAnother_25 S = some o) : o.2 = S := by
  have h_S : S = S := rfl
  unfold f_X0_becomesAnother_25 at hf
  exact (ro_X0_becomesAnother_26  hf).trans h_S
theorem ro_X0_becomesAnother_21 {o : Int32 × ZS} {S : ZS}  (hf : f_X0_becomesAnother_21 S = some o) : o.2 = S := by
  have h_S : S = S := rfl
  unfold f_X0_becomesAnother_21 at hf
  exact (ro_X0_becomesAnother_26  hf).trans h_S
theorem ro_X0_becomesAnother_0 {o : Int32 × ZS} {x0 : Nat} {x1 : Int32} {x2 : Int32} {S : ZS}  (hf : f_X0_becomesAnother_0 x0 x1 x2 S = some o) : o.2 = S := by
  have h_S : S = S := rfl
  unfold f_X0_becomesAnother_0 at hf
  obtain ⟨-, hf⟩ := m_chkE hf
  obtain ⟨o1, ho, hf⟩ := m_calE hf
  have h_o1 := (ro_X0_kindAt ho).trans h_S
  clear ho
  rcases m_ifE hf with ⟨-, hf⟩ | ⟨-, hf⟩
  ·
    rcases m_ifE hf with ⟨-, hf⟩ | ⟨-, hf⟩
    ·
      exact (ro_X0_becomesAnother_21  hf).trans h_o1
    ·
      rcases m_ifE hf with ⟨-, hf⟩ | ⟨-, hf⟩
      ·
        exact (ro_X0_becomesAnother_25  hf).trans h_o1
      ·
        exact (ro_X0_becomesAnother_21  hf).trans h_o1
  ·
    exact (ro_X0_becomesAnother_25  hf).trans h_o1
theorem ro_X0_becomesAnother {o : Int32 × ZS} {x0 : Nat} {x1 : Int32} {x2 : Int32} {S : ZS}  (hf : f_X0_becomesAnother x0 x1 x2 S = some o) : o.2 = S := by
  have h_S : S = S := rfl
  unfold f_X0_becomesAnother at hf
  exact (ro_X0_becomesAnother_0  hf).trans h_S
theorem ro_X0_pawnAttacks_34 {o : Int32 × ZS} {S : ZS}  (hf : f_X0_pawnAttacks_34 S = some o) : o.2 = S := by
  have h_S : S = S := rfl
  unfold f_X0_pawnAttacks_34 at hf
  obtain ⟨-, hf⟩ := m_chkE hf
  cases hf
  exact h_S
theorem ro_X0_pawnAttacks_85 {o : Int32 × ZS} {t0 : Int32} {S : ZS}  (hf : f_X0_pawnAttacks_85 t0 S = some o) : o.2 = S := by
  have h_S : S = S := rfl
  unfold f_X0_pawnAttacks_85 at hf
  obtain ⟨-, hf⟩ := m_chkE hf
  cases hf
  exact h_S
theorem ro_X0_pawnAttacks_84 {o : Int32 × ZS} {S : ZS}  (hf : f_X0_pawnAttacks_84 S = some o) : o.2 = S := by
  have h_S : S = S := rfl
  unfold f_X0_pawnAttacks_84 at hf
  exact (ro_X0_pawnAttacks_85  hf).trans h_S
theorem ro_X0_pawnAttacks_80 {o : Int32 × ZS} {S : ZS}  (hf : f_X0_pawnAttacks_80 S = some o) : o.2 = S := by
  have h_S : S = S := rfl
  unfold f_X0_pawnAttacks_80 at hf
  exact (ro_X0_pawnAttacks_85  hf).trans h_S
theorem ro_X0_pawnAttacks_57 {o : Int32 × ZS} {x0 : Nat} {x3 : Int32} {x4 : Int32} {S : ZS}  (hf : f_X0_pawnAttacks_57 x0 x3 x4 S = some o) : o.2 = S := by
  have h_S : S = S := rfl
  unfold f_X0_pawnAttacks_57 at hf
  obtain ⟨v1, -, hf⟩ := m_bndE hf
  rcases m_ifE hf with ⟨-, hf⟩ | ⟨-, hf⟩
  ·
    exact (ro_X0_pawnAttacks_84  hf).trans h_S
  ·
    obtain ⟨-, hf⟩ := m_chkE hf
    obtain ⟨b2, -, hf⟩ := m_calE hf
    obtain ⟨v3, -, hf⟩ := m_bndE hf
    obtain ⟨-, hf⟩ := m_chkE hf
    obtain ⟨-, hf⟩ := m_chkE hf
    obtain ⟨v4, -, hf⟩ := m_bndE hf
    rcases m_ifE hf with ⟨-, hf⟩ | ⟨-, hf⟩
    ·
      exact (ro_X0_pawnAttacks_80  hf).trans h_S
    ·
      exact (ro_X0_pawnAttacks_84  hf).trans h_S
theorem ro_X0_pawnAttacks_19 {o : Int32 × ZS} {x0 : Nat} {x3 : Int32} {t0 : Int32} {t1 : Int32} {S : ZS}  (hf : f_X0_pawnAttacks_19 x0 x3 t0 t1 S = some o) : o.2 = S := by
  have h_S : S = S := rfl
  unfold f_X0_pawnAttacks_19 at hf
  obtain ⟨v1, -, hf⟩ := m_bndE hf
  rcases m_ifE hf with ⟨-, hf⟩ | ⟨-, hf⟩
  ·
    exact (ro_X0_pawnAttacks_34  hf).trans h_S
  ·
    rcases m_ifE hf with ⟨-, hf⟩ | ⟨-, hf⟩
    ·
      obtain ⟨v2, -, hf⟩ := m_bndE hf
      rcases m_ifE hf with ⟨-, hf⟩ | ⟨-, hf⟩
      ·
        exact (ro_X0_pawnAttacks_57  hf).trans h_S
      ·
        obtain ⟨-, hf⟩ := m_chkE hf
        obtain ⟨b3, -, hf⟩ := m_calE hf
        obtain ⟨v4, -, hf⟩ := m_bndE hf
        obtain ⟨-, hf⟩ := m_chkE hf
        obtain ⟨-, hf⟩ := m_chkE hf
        obtain ⟨v5, -, hf⟩ := m_bndE hf
        rcases m_ifE hf with ⟨-, hf⟩ | ⟨-, hf⟩
        ·
          exact (ro_X0_pawnAttacks_80  hf).trans h_S
        ·
          exact (ro_X0_pawnAttacks_57  hf).trans h_S
    ·
      exact (ro_X0_pawnAttacks_34  hf).trans h_S
theorem ro_X0_pawnAttacks_0 {o : Int32 × ZS} {x0 : Nat} {x1 : Int32} {x2 : Int32} {S : ZS}  (hf : f_X0_pawnAttacks_0 x0 x1 x2 S = some o) : o.2 = S := by
  have h_S : S = S := rfl
  unfold f_X0_pawnAttacks_0 at hf
  obtain ⟨v1, -, hf⟩ := m_bndE hf
  obtain ⟨v2, -, hf⟩ := m_bndE hf
  rcases m_ifE hf with ⟨-, hf⟩ | ⟨-, hf⟩
  ·
    exact (ro_X0_pawnAttacks_19  hf).trans h_S
  ·
    exact (ro_X0_pawnAttacks_19  hf).trans h_S
theorem ro_X0_pawnAttacks {o : Int32 × ZS} {x0 : Nat} {x1 : Int32} {x2 : Int32} {S : ZS}  (hf : f_X0_pawnAttacks x0 x1 x2 S = some o) : o.2 = S := by
  have h_S : S = S := rfl
  unfold f_X0_pawnAttacks at hf
  exact (ro_X0_pawnAttacks_0  hf).trans h_S
theorem ro_X0_rightsOf_0 {o : Int32 × ZS} {x0 : Int32} {S : ZS}  (hf : f_X0_rightsOf_0 x0 S = some o) : o.2 = S := by
  have h_S : S = S := rfl
  unfold f_X0_rightsOf_0 at hf
  rcases m_ifE hf with ⟨-, hf⟩ | ⟨-, hf⟩
  ·
    cases hf
    exact h_S
  ·
    rcases m_ifE hf with ⟨-, hf⟩ | ⟨-, hf⟩
    ·
      cases hf
      exact h_S
    ·
      rcases m_ifE hf with ⟨-, hf⟩ | ⟨-, hf⟩
      ·
        cases hf
        exact h_S
      ·
        rcases m_ifE hf with ⟨-, hf⟩ | ⟨-, hf⟩
        ·
          cases hf
          exact h_S
        ·
          rcases m_ifE hf with ⟨-, hf⟩ | ⟨-, hf⟩
          ·
            cases hf
            exact h_S
          ·
            rcases m_ifE hf with ⟨-, hf⟩ | ⟨-, hf⟩
            ·
              cases hf
              exact h_S
            ·
              cases hf
              exact h_S
theorem ro_X0_rightsOf {o : Int32 × ZS} {x0 : Int32} {S : ZS}  (hf : f_X0_rightsOf x0 S = some o) : o.2 = S := by
  have h_S : S = S := rfl
  unfold f_X0_rightsOf at hf
  exact (ro_X0_rightsOf_0  hf).trans h_S
theorem ro_X1_has_17 {o : Int32 × ZS} {t0 : Int32} {S : ZS}  (hf : f_X1_has_17 t0 S = some o) : o.2 = S := by
  have h_S : S = S := rfl
  unfold f_X1_has_17 at hf
  obtain ⟨-, hf⟩ := m_chkE hf
  cases hf
  exact h_S
theorem ro_X1_has_16 {o : Int32 × ZS} {S : ZS}  (hf : f_X1_has_16 S = some o) : o.2 = S := by
  have h_S : S = S := rfl
  unfold f_X1_has_16 at hf
  exact (ro_X1_has_17  hf).trans h_S
theorem ro_X1_has_0 {o : Int32 × ZS} {x0 : Nat} {x1 : Int32} {S : ZS}  (hf : f_X1_has_0 x0 x1 S = some o) : o.2 = S := by
  have h_S : S = S := rfl
  unfold f_X1_has_0 at hf
  rcases m_ifE hf with ⟨-, hf⟩ | ⟨-, hf⟩
  ·
    exact (ro_X1_has_16  hf).trans h_S
  ·
    obtain ⟨-, hf⟩ := m_chkE hf
    rcases m_ifE hf with ⟨-, hf⟩ | ⟨-, hf⟩
    ·
      exact (ro_X1_has_16  hf).trans h_S
    ·
      exact (ro_X1_has_17  hf).trans h_S
theorem ro_X1_has {o : Int32 × ZS} {x0 : Nat} {x1 : Int32} {S : ZS}  (hf : f_X1_has x0 x1 S = some o) : o.2 = S := by
  have h_S : S = S := rfl
  unfold f_X1_has at hf
  exact (ro_X1_has_0  hf).trans h_S
theorem ro_X1_at_35 {o : Nat × ZS} {t0 : Option Nat} {S : ZS}  (hf : f_X1_at_35 t0 S = some o) : o.2 = S := by
  have h_S : S = S := rfl
  unfold f_X1_at_35 at hf
  obtain ⟨b1, -, hf⟩ := m_calE hf
  cases hf
  exact h_S
theorem ro_X1_at_22 {o : Nat × ZS} {x0 : Nat} {t0 : Option Nat} {S : ZS}  (hf : f_X1_at_22 x0 t0 S = some o) : o.2 = S := by
  have h_S : S = S := rfl
  unfold f_X1_at_22 at hf
  rcases m_optE hf with ⟨-, hf⟩ | ⟨b1, -, hf⟩
  ·
    obtain ⟨-, hf⟩ := m_chkE hf
    obtain ⟨b2, -, hf⟩ := m_calE hf
    exact (ro_X1_at_35  hf).trans h_S
  ·
    exact (ro_X1_at_35  hf).trans h_S
theorem ro_X1_at_21 {o : Nat × ZS} {x0 : Nat} {S : ZS}  (hf : f_X1_at_21 x0 S = some o) : o.2 = S := by
  have h_S : S = S := rfl
  unfold f_X1_at_21 at hf
  exact (ro_X1_at_22  hf).trans h_S
theorem ro_X1_at_0 {o : Nat × ZS} {x0 : Nat} {x1 : Int32} {S : ZS}  (hf : f_X1_at_0 x0 x1 S = some o) : o.2 = S := by
  have h_S : S = S := rfl
  unfold f_X1_at_0 at hf
  rcases m_ifE hf with ⟨-, hf⟩ | ⟨-, hf⟩
  ·
    exact (ro_X1_at_21  hf).trans h_S
  ·
    obtain ⟨-, hf⟩ := m_chkE hf
    rcases m_ifE hf with ⟨-, hf⟩ | ⟨-, hf⟩
    ·
      exact (ro_X1_at_21  hf).trans h_S
    ·
      obtain ⟨-, hf⟩ := m_chkE hf
      obtain ⟨b1, -, hf⟩ := m_calE hf
      obtain ⟨-, hf⟩ := m_chkE hf
      obtain ⟨-, hf⟩ := m_chkE hf
      obtain ⟨v2, -, hf⟩ := m_bndE hf
      exact (ro_X1_at_22  hf).trans h_S
theorem ro_X1_at {o : Nat × ZS} {x0 : Nat} {x1 : Int32} {S : ZS}  (hf : f_X1_at x0 x1 S = some o) : o.2 = S := by
  have h_S : S = S := rfl
  unfold f_X1_at at hf
  exact (ro_X1_at_0  hf).trans h_S
theorem ro_X1_childWith_52 {o : Int32 × ZS} {x3 : Int32} {S : ZS}  (hf : f_X1_childWith_52 x3 S = some o) : o.2 = S := by
  have h_S : S = S := rfl
  unfold f_X1_childWith_52 at hf
  cases hf
  exact h_S
theorem ro_X1_childWith_12s {o : Int32 × ZS} {self12 : Nat → Int32 → Int32 → Int32 → ZS → Option (Int32 × ZS)} {x0 : Nat} {x2 : Int32} {x3 : Int32} {x4 : Int32} {S : ZS} (hself12 : ∀ (z0 : Nat) (z1 : Int32) (z2 : Int32) (z3 : Int32) (S : ZS) (o : Int32 × ZS), self12 z0 z1 z2 z3 S = some o → o.2 = S) (hf : f_X1_childWith_12s self12 x0 x2 x3 x4 S = some o) : o.2 = S := by
  have h_S : S = S := rfl
  unfold f_X1_childWith_12s at hf
  rcases m_ifE hf with ⟨-, hf⟩ | ⟨-, hf⟩
  ·
    exact (ro_X1_childWith_52  hf).trans h_S
  ·
    rcases m_ifE hf with ⟨-, hf⟩ | ⟨-, hf⟩
    ·
      exact (ro_X1_childWith_52  hf).trans h_S
    ·
      obtain ⟨-, hf⟩ := m_chkE hf
      obtain ⟨o1, ho, hf⟩ := m_calE hf
      have h_o1 := (ro_X1_at ho).trans h_S
      clear ho
      obtain ⟨-, hf⟩ := m_chkE hf
      rcases m_ifE hf with ⟨-, hf⟩ | ⟨-, hf⟩
      ·
        exact (ro_X1_childWith_52  hf).trans h_o1
      ·
        obtain ⟨-, hf⟩ := m_chkE hf
        obtain ⟨o2, ho, hf⟩ := m_calE hf
        have h_o2 := (ro_X1_at ho).trans h_o1
        clear ho
        obtain ⟨-, hf⟩ := m_chkE hf
        obtain ⟨v3, -, hf⟩ := m_bndE hf
        exact (hself12 _ _ _ _ _ _ hf).trans h_o2
theorem ro_X1_childWith_12   (n : Nat) : ∀ (y0 : Nat) (y1 : Int32) (y2 : Int32) (y3 : Int32) (S : ZS) (o : Int32 × ZS), f_X1_childWith_12  n y0 y1 y2 y3 S = some o → o.2 = S := by
  induction n with
  | zero => intro y0 y1 y2 y3 S o hf; cases hf
  | succ n ih => intro y0 y1 y2 y3 S o hf; exact ro_X1_childWith_12s  ih hf
theorem ro_X1_childWith_0 {o : Int32 × ZS} {x0 : Nat} {x1 : Int32} {x2 : Int32} {S : ZS}  (hf : f_X1_childWith_0 x0 x1 x2 S = some o) : o.2 = S := by
  have h_S : S = S := rfl
  unfold f_X1_childWith_0 at hf
  obtain ⟨-, hf⟩ := m_chkE hf
  obtain ⟨o1, ho, hf⟩ := m_calE hf
  have h_o1 := (ro_X1_at ho).trans h_S
  clear ho
  obtain ⟨-, hf⟩ := m_chkE hf
  exact (ro_X1_childWith_12  _ _ _ _ _ _ _ hf).trans h_o1
theorem ro_X1_childWith {o : Int32 × ZS} {x0 : Nat} {x1 : Int32} {x2 : Int32} {S : ZS}  (hf : f_X1_childWith x0 x1 x2 S = some o) : o.2 = S := by
  have h_S : S = S := rfl
  unfold f_X1_childWith at hf
  exact (ro_X1_childWith_0  hf).trans h_S
theorem ro_X1_goesOn_24 {o : Int32 × ZS} {t0 : Int32} {S : ZS}  (hf : f_X1_goesOn_24 t0 S = some o) : o.2 = S := by
  have h_S : S = S := rfl
  unfold f_X1_goesOn_24 at hf
  obtain ⟨-, hf⟩ := m_chkE hf
  cases hf
  exact h_S
theorem ro_X1_goesOn_0 {o : Int32 × ZS} {x0 : Nat} {x1 : Int32} {S : ZS}  (hf : f_X1_goesOn_0 x0 x1 S = some o) : o.2 = S := by
  have h_S : S = S := rfl
  unfold f_X1_goesOn_0 at hf
  obtain ⟨-, hf⟩ := m_chkE hf
  obtain ⟨o1, ho, hf⟩ := m_calE hf
  have h_o1 := (ro_X1_at ho).trans h_S
  clear ho
  obtain ⟨-, hf⟩ := m_chkE hf
  obtain ⟨-, hf⟩ := m_chkE hf
  obtain ⟨o2, ho, hf⟩ := m_calE hf
  have h_o2 := (ro_X1_at ho).trans h_o1
  clear ho
  obtain ⟨-, hf⟩ := m_chkE hf
  rcases m_ifE hf with ⟨-, hf⟩ | ⟨-, hf⟩
  ·
    exact (ro_X1_goesOn_24  hf).trans h_o2
  ·
    exact (ro_X1_goesOn_24  hf).trans h_o2
theorem ro_X1_goesOn {o : Int32 × ZS} {x0 : Nat} {x1 : Int32} {S : ZS}  (hf : f_X1_goesOn x0 x1 S = some o) : o.2 = S := by
  have h_S : S = S := rfl
  unfold f_X1_goesOn at hf
  exact (ro_X1_goesOn_0  hf).trans h_S
theorem ro_X1_deepOfNext_66 {o : Int32 × ZS} {x2 : Int32} {S : ZS}  (hf : f_X1_deepOfNext_66 x2 S = some o) : o.2 = S := by
  have h_S : S = S := rfl
  unfold f_X1_deepOfNext_66 at hf
  cases hf
  exact h_S
theorem ro_X1_deepOfNext_49 {o : Int32 × ZS} {self23 : Nat → Int32 → Int32 → Int32 → ZS → Option (Int32 × ZS)} {x0 : Nat} {x3 : Int32} {x4 : Int32} {t0 : Int32} {t1 : Int32} {S : ZS} (hself23 : ∀ (z0 : Nat) (z1 : Int32) (z2 : Int32) (z3 : Int32) (S : ZS) (o : Int32 × ZS), self23 z0 z1 z2 z3 S = some o → o.2 = S) (hf : f_X1_deepOfNext_49 self23 x0 x3 x4 t0 t1 S = some o) : o.2 = S := by
  have h_S : S = S := rfl
  unfold f_X1_deepOfNext_49 at hf
  obtain ⟨v1, -, hf⟩ := m_bndE hf
  obtain ⟨-, hf⟩ := m_chkE hf
  obtain ⟨o2, ho, hf⟩ := m_calE hf
  have h_o2 := (ro_X1_at ho).trans h_S
  clear ho
  obtain ⟨-, hf⟩ := m_chkE hf
  obtain ⟨v3, -, hf⟩ := m_bndE hf
  exact (hself23 _ _ _ _ _ _ hf).trans h_o2
theorem ro_X1_deepOfNext_23s {o : Int32 × ZS} {self23 : Nat → Int32 → Int32 → Int32 → ZS → Option (Int32 × ZS)} {x0 : Nat} {x2 : Int32} {x3 : Int32} {x4 : Int32} {S : ZS} (hself23 : ∀ (z0 : Nat) (z1 : Int32) (z2 : Int32) (z3 : Int32) (S : ZS) (o : Int32 × ZS), self23 z0 z1 z2 z3 S = some o → o.2 = S) (hf : f_X1_deepOfNext_23s self23 x0 x2 x3 x4 S = some o) : o.2 = S := by
  have h_S : S = S := rfl
  unfold f_X1_deepOfNext_23s at hf
  rcases m_ifE hf with ⟨-, hf⟩ | ⟨-, hf⟩
  ·
    exact (ro_X1_deepOfNext_66  hf).trans h_S
  ·
    rcases m_ifE hf with ⟨-, hf⟩ | ⟨-, hf⟩
    ·
      exact (ro_X1_deepOfNext_66  hf).trans h_S
    ·
      obtain ⟨-, hf⟩ := m_chkE hf
      obtain ⟨o1, ho, hf⟩ := m_calE hf
      have h_o1 := (ro_X1_goesOn ho).trans h_S
      clear ho
      rcases m_ifE hf with ⟨-, hf⟩ | ⟨-, hf⟩
      ·
        exact (ro_X1_deepOfNext_49 hself23 hf).trans h_o1
      ·
        exact (ro_X1_deepOfNext_49 hself23 hf).trans h_o1
theorem ro_X1_deepOfNext_23   (n : Nat) : ∀ (y0 : Nat) (y1 : Int32) (y2 : Int32) (y3 : Int32) (S : ZS) (o : Int32 × ZS), f_X1_deepOfNext_23  n y0 y1 y2 y3 S = some o → o.2 = S := by
  induction n with
  | zero => intro y0 y1 y2 y3 S o hf; cases hf
  | succ n ih => intro y0 y1 y2 y3 S o hf; exact ro_X1_deepOfNext_23s  ih hf
theorem ro_X1_deepOfNext_17 {o : Int32 × ZS} {x0 : Nat} {x1 : Int32} {t0 : Int32} {S : ZS}  (hf : f_X1_deepOfNext_17 x0 x1 t0 S = some o) : o.2 = S := by
  have h_S : S = S := rfl
  unfold f_X1_deepOfNext_17 at hf
  exact (ro_X1_deepOfNext_23  _ _ _ _ _ _ _ hf).trans h_S
theorem ro_X1_deepOfNext_0 {o : Int32 × ZS} {x0 : Nat} {x1 : Int32} {S : ZS}  (hf : f_X1_deepOfNext_0 x0 x1 S = some o) : o.2 = S := by
  have h_S : S = S := rfl
  unfold f_X1_deepOfNext_0 at hf
  obtain ⟨-, hf⟩ := m_chkE hf
  obtain ⟨o1, ho, hf⟩ := m_calE hf
  have h_o1 := (ro_X1_at ho).trans h_S
  clear ho
  obtain ⟨-, hf⟩ := m_chkE hf
  rcases m_ifE hf with ⟨-, hf⟩ | ⟨-, hf⟩
  ·
    exact (ro_X1_deepOfNext_17  hf).trans h_o1
  ·
    exact (ro_X1_deepOfNext_17  hf).trans h_o1
theorem ro_X1_deepOfNext {o : Int32 × ZS} {x0 : Nat} {x1 : Int32} {S : ZS}  (hf : f_X1_deepOfNext x0 x1 S = some o) : o.2 = S := by
  have h_S : S = S := rfl
  unfold f_X1_deepOfNext at hf
  exact (ro_X1_deepOfNext_0  hf).trans h_S
theorem ro_X6_at_22 {o : Int32 × ZS} {t0 : Int32} {S : ZS}  (hf : f_X6_at_22 t0 S = some o) : o.2 = S := by
  have h_S : S = S := rfl
  unfold f_X6_at_22 at hf
  obtain ⟨-, hf⟩ := m_chkE hf
  cases hf
  exact h_S
theorem ro_X6_at_21 {o : Int32 × ZS} {S : ZS}  (hf : f_X6_at_21 S = some o) : o.2 = S := by
  have h_S : S = S := rfl
  unfold f_X6_at_21 at hf
  exact (ro_X6_at_22  hf).trans h_S
theorem ro_X6_at_0 {o : Int32 × ZS} {x0 : Nat} {x1 : Int32} {S : ZS}  (hf : f_X6_at_0 x0 x1 S = some o) : o.2 = S := by
  have h_S : S = S := rfl
  unfold f_X6_at_0 at hf
  rcases m_ifE hf with ⟨-, hf⟩ | ⟨-, hf⟩
  ·
    exact (ro_X6_at_21  hf).trans h_S
  ·
    obtain ⟨-, hf⟩ := m_chkE hf
    rcases m_ifE hf with ⟨-, hf⟩ | ⟨-, hf⟩
    ·
      exact (ro_X6_at_21  hf).trans h_S
    ·
      obtain ⟨-, hf⟩ := m_chkE hf
      obtain ⟨b1, -, hf⟩ := m_calE hf
      obtain ⟨-, hf⟩ := m_chkE hf
      obtain ⟨-, hf⟩ := m_chkE hf
      obtain ⟨v2, -, hf⟩ := m_bndE hf
      exact (ro_X6_at_22  hf).trans h_S
theorem ro_X6_at {o : Int32 × ZS} {x0 : Nat} {x1 : Int32} {S : ZS}  (hf : f_X6_at x0 x1 S = some o) : o.2 = S := by
  have h_S : S = S := rfl
  unfold f_X6_at at hf
  exact (ro_X6_at_0  hf).trans h_S
theorem ro_X6_isLike_15s {o : Int32 × ZS} {self15 : Nat → Nat → Int32 → ZS → Option (Int32 × ZS)} {x0 : Nat} {x1 : Nat} {x2 : Int32} {S : ZS} (hself15 : ∀ (z0 : Nat) (z1 : Nat) (z2 : Int32) (S : ZS) (o : Int32 × ZS), self15 z0 z1 z2 S = some o → o.2 = S) (hf : f_X6_isLike_15s self15 x0 x1 x2 S = some o) : o.2 = S := by
  have h_S : S = S := rfl
  unfold f_X6_isLike_15s at hf
  obtain ⟨-, hf⟩ := m_chkE hf
  rcases m_ifE hf with ⟨-, hf⟩ | ⟨-, hf⟩
  ·
    obtain ⟨-, hf⟩ := m_chkE hf
    cases hf
    exact h_S
  ·
    obtain ⟨-, hf⟩ := m_chkE hf
    obtain ⟨b1, -, hf⟩ := m_calE hf
    obtain ⟨-, hf⟩ := m_chkE hf
    obtain ⟨-, hf⟩ := m_chkE hf
    obtain ⟨v2, -, hf⟩ := m_bndE hf
    obtain ⟨-, hf⟩ := m_chkE hf
    obtain ⟨o3, ho, hf⟩ := m_calE hf
    have h_o3 := (ro_X6_at ho).trans h_S
    clear ho
    rcases m_ifE hf with ⟨-, hf⟩ | ⟨-, hf⟩
    ·
      obtain ⟨v4, -, hf⟩ := m_bndE hf
      exact (hself15 _ _ _ _ _ hf).trans h_o3
    ·
      obtain ⟨-, hf⟩ := m_chkE hf
      cases hf
      exact h_o3
theorem ro_X6_isLike_15   (n : Nat) : ∀ (y0 : Nat) (y1 : Nat) (y2 : Int32) (S : ZS) (o : Int32 × ZS), f_X6_isLike_15  n y0 y1 y2 S = some o → o.2 = S := by
  induction n with
  | zero => intro y0 y1 y2 S o hf; cases hf
  | succ n ih => intro y0 y1 y2 S o hf; exact ro_X6_isLike_15s  ih hf
theorem ro_X6_isLike_0 {o : Int32 × ZS} {x0 : Nat} {x1 : Nat} {S : ZS}  (hf : f_X6_isLike_0 x0 x1 S = some o) : o.2 = S := by
  have h_S : S = S := rfl
  unfold f_X6_isLike_0 at hf
  obtain ⟨-, hf⟩ := m_chkE hf
  obtain ⟨-, hf⟩ := m_chkE hf
  rcases m_ifE hf with ⟨-, hf⟩ | ⟨-, hf⟩
  ·
    exact (ro_X6_isLike_15  _ _ _ _ _ _ hf).trans h_S
  ·
    obtain ⟨-, hf⟩ := m_chkE hf
    cases hf
    exact h_S
theorem ro_X6_isLike {o : Int32 × ZS} {x0 : Nat} {x1 : Nat} {S : ZS}  (hf : f_X6_isLike x0 x1 S = some o) : o.2 = S := by
  have h_S : S = S := rfl
  unfold f_X6_isLike at hf
  exact (ro_X6_isLike_0  hf).trans h_S
theorem ro_J0_coder_7d493_14 {o : Int32 × ZS} {t0 : Int32} {S : ZS}  (hf : f_J0_coder_7d493_14 t0 S = some o) : o.2 = S := by
  have h_S : S = S := rfl
  unfold f_J0_coder_7d493_14 at hf
  obtain ⟨-, hf⟩ := m_chkE hf
  cases hf
  exact h_S
theorem ro_J0_coder_7d493_0 {o : Int32 × ZS} {x0 : Nat} {S : ZS}  (hf : f_J0_coder_7d493_0 x0 S = some o) : o.2 = S := by
  have h_S : S = S := rfl
  unfold f_J0_coder_7d493_0 at hf
  rcases m_ifE hf with ⟨-, hf⟩ | ⟨-, hf⟩
  ·
    exact (ro_J0_coder_7d493_14  hf).trans h_S
  ·
    obtain ⟨-, hf⟩ := m_chkE hf
    exact (ro_J0_coder_7d493_14  hf).trans h_S
theorem ro_J0_coder_7d493 {o : Int32 × ZS} {x0 : Nat} {S : ZS}  (hf : f_J0_coder_7d493 x0 S = some o) : o.2 = S := by
  have h_S : S = S := rfl
  unfold f_J0_coder_7d493 at hf
  exact (ro_J0_coder_7d493_0  hf).trans h_S
theorem ro_J0_length_8abf5_0 {o : Int32 × ZS} {x0 : Nat} {S : ZS}  (hf : f_J0_length_8abf5_0 x0 S = some o) : o.2 = S := by
  have h_S : S = S := rfl
  unfold f_J0_length_8abf5_0 at hf
  obtain ⟨-, hf⟩ := m_chkE hf
  obtain ⟨-, hf⟩ := m_chkE hf
  obtain ⟨v1, -, hf⟩ := m_bndE hf
  obtain ⟨-, hf⟩ := m_chkE hf
  obtain ⟨o2, ho, hf⟩ := m_calE hf
  have h_o2 := (ro_J0_coder_7d493 ho).trans h_S
  clear ho
  obtain ⟨v3, -, hf⟩ := m_bndE hf
  cases hf
  exact h_o2
theorem ro_J0_length_8abf5 {o : Int32 × ZS} {x0 : Nat} {S : ZS}  (hf : f_J0_length_8abf5 x0 S = some o) : o.2 = S := by
  have h_S : S = S := rfl
  unfold f_J0_length_8abf5 at hf
  exact (ro_J0_length_8abf5_0  hf).trans h_S
theorem ro_J0_isLatin1_aae02_18 {o : Int32 × ZS} {t0 : Int32} {S : ZS}  (hf : f_J0_isLatin1_aae02_18 t0 S = some o) : o.2 = S := by
  have h_S : S = S := rfl
  unfold f_J0_isLatin1_aae02_18 at hf
  obtain ⟨-, hf⟩ := m_chkE hf
  cases hf
  exact h_S
theorem ro_J0_isLatin1_aae02_17 {o : Int32 × ZS} {S : ZS}  (hf : f_J0_isLatin1_aae02_17 S = some o) : o.2 = S := by
  have h_S : S = S := rfl
  unfold f_J0_isLatin1_aae02_17 at hf
  exact (ro_J0_isLatin1_aae02_18  hf).trans h_S
theorem ro_J0_isLatin1_aae02_0 {o : Int32 × ZS} {x0 : Nat} {S : ZS}  (hf : f_J0_isLatin1_aae02_0 x0 S = some o) : o.2 = S := by
  have h_S : S = S := rfl
  unfold f_J0_isLatin1_aae02_0 at hf
  rcases m_ifE hf with ⟨-, hf⟩ | ⟨-, hf⟩
  ·
    exact (ro_J0_isLatin1_aae02_17  hf).trans h_S
  ·
    obtain ⟨-, hf⟩ := m_chkE hf
    rcases m_ifE hf with ⟨-, hf⟩ | ⟨-, hf⟩
    ·
      exact (ro_J0_isLatin1_aae02_18  hf).trans h_S
    ·
      exact (ro_J0_isLatin1_aae02_17  hf).trans h_S
theorem ro_J0_isLatin1_aae02 {o : Int32 × ZS} {x0 : Nat} {S : ZS}  (hf : f_J0_isLatin1_aae02 x0 S = some o) : o.2 = S := by
  have h_S : S = S := rfl
  unfold f_J0_isLatin1_aae02 at hf
  exact (ro_J0_isLatin1_aae02_0  hf).trans h_S
theorem ro_J3_checkIndex_8e157_0 {o : Int32 × ZS} {x0 : Int32} {x1 : Int32} {S : ZS}  (hf : f_J3_checkIndex_8e157_0 x0 x1 S = some o) : o.2 = S := by
  have h_S : S = S := rfl
  unfold f_J3_checkIndex_8e157_0 at hf
  rcases m_ifE hf with ⟨-, hf⟩ | ⟨-, hf⟩
  ·
    cases hf
  ·
    rcases m_ifE hf with ⟨-, hf⟩ | ⟨-, hf⟩
    ·
      cases hf
      exact h_S
    ·
      cases hf
theorem ro_J3_checkIndex_8e157 {o : Int32 × ZS} {x0 : Int32} {x1 : Int32} {S : ZS}  (hf : f_J3_checkIndex_8e157 x0 x1 S = some o) : o.2 = S := by
  have h_S : S = S := rfl
  unfold f_J3_checkIndex_8e157 at hf
  exact (ro_J3_checkIndex_8e157_0  hf).trans h_S
theorem ro_J0_checkIndex_df160_0 {o : Int32 × ZS} {x0 : Int32} {x1 : Int32} {S : ZS}  (hf : f_J0_checkIndex_df160_0 x0 x1 S = some o) : o.2 = S := by
  have h_S : S = S := rfl
  unfold f_J0_checkIndex_df160_0 at hf
  obtain ⟨o1, ho, hf⟩ := m_calE hf
  have h_o1 := (ro_J3_checkIndex_8e157 ho).trans h_S
  clear ho
  cases hf
  exact h_o1
theorem ro_J0_checkIndex_df160 {o : Int32 × ZS} {x0 : Int32} {x1 : Int32} {S : ZS}  (hf : f_J0_checkIndex_df160 x0 x1 S = some o) : o.2 = S := by
  have h_S : S = S := rfl
  unfold f_J0_checkIndex_df160 at hf
  exact (ro_J0_checkIndex_df160_0  hf).trans h_S
theorem ro_J1_charAt_3b067_0 {o : Int32 × ZS} {x0 : Nat} {x1 : Int32} {S : ZS}  (hf : f_J1_charAt_3b067_0 x0 x1 S = some o) : o.2 = S := by
  have h_S : S = S := rfl
  unfold f_J1_charAt_3b067_0 at hf
  obtain ⟨-, hf⟩ := m_chkE hf
  obtain ⟨v1, -, hf⟩ := m_bndE hf
  obtain ⟨o2, ho, hf⟩ := m_calE hf
  have h_o2 := (ro_J0_checkIndex_df160 ho).trans h_S
  clear ho
  obtain ⟨-, hf⟩ := m_chkE hf
  obtain ⟨-, hf⟩ := m_chkE hf
  obtain ⟨v3, -, hf⟩ := m_bndE hf
  obtain ⟨v4, -, hf⟩ := m_bndE hf
  obtain ⟨v5, -, hf⟩ := m_bndE hf
  obtain ⟨-, hf⟩ := m_chkE hf
  cases hf
  exact h_o2
theorem ro_J1_charAt_3b067 {o : Int32 × ZS} {x0 : Nat} {x1 : Int32} {S : ZS}  (hf : f_J1_charAt_3b067 x0 x1 S = some o) : o.2 = S := by
  have h_S : S = S := rfl
  unfold f_J1_charAt_3b067 at hf
  exact (ro_J1_charAt_3b067_0  hf).trans h_S
theorem ro_J0_charAt_5068e_0 {o : Int32 × ZS} {x0 : Nat} {x1 : Int32} {S : ZS}  (hf : f_J0_charAt_5068e_0 x0 x1 S = some o) : o.2 = S := by
  have h_S : S = S := rfl
  unfold f_J0_charAt_5068e_0 at hf
  obtain ⟨-, hf⟩ := m_chkE hf
  obtain ⟨o1, ho, hf⟩ := m_calE hf
  have h_o1 := (ro_J0_isLatin1_aae02 ho).trans h_S
  clear ho
  rcases m_ifE hf with ⟨-, hf⟩ | ⟨-, hf⟩
  ·
    cases hf
  ·
    obtain ⟨-, hf⟩ := m_chkE hf
    obtain ⟨o2, ho, hf⟩ := m_calE hf
    have h_o2 := (ro_J1_charAt_3b067 ho).trans h_o1
    clear ho
    obtain ⟨-, hf⟩ := m_chkE hf
    cases hf
    exact h_o2
theorem ro_J0_charAt_5068e {o : Int32 × ZS} {x0 : Nat} {x1 : Int32} {S : ZS}  (hf : f_J0_charAt_5068e x0 x1 S = some o) : o.2 = S := by
  have h_S : S = S := rfl
  unfold f_J0_charAt_5068e at hf
  exact (ro_J0_charAt_5068e_0  hf).trans h_S
theorem ro_X6_holds_17 {o : Int32 × ZS} {S : ZS}  (hf : f_X6_holds_17 S = some o) : o.2 = S := by
  have h_S : S = S := rfl
  unfold f_X6_holds_17 at hf
  obtain ⟨-, hf⟩ := m_chkE hf
  cases hf
  exact h_S
theorem ro_X6_holds_21s {o : Int32 × ZS} {self21 : Nat → Nat → Int32 → Int32 → ZS → Option (Int32 × ZS)} {x0 : Nat} {x1 : Nat} {x2 : Int32} {x3 : Int32} {S : ZS} (hself21 : ∀ (z0 : Nat) (z1 : Nat) (z2 : Int32) (z3 : Int32) (S : ZS) (o : Int32 × ZS), self21 z0 z1 z2 z3 S = some o → o.2 = S) (hf : f_X6_holds_21s self21 x0 x1 x2 x3 S = some o) : o.2 = S := by
  have h_S : S = S := rfl
  unfold f_X6_holds_21s at hf
  obtain ⟨-, hf⟩ := m_chkE hf
  obtain ⟨o1, ho, hf⟩ := m_calE hf
  have h_o1 := (ro_J0_length_8abf5 ho).trans h_S
  clear ho
  rcases m_ifE hf with ⟨-, hf⟩ | ⟨-, hf⟩
  ·
    obtain ⟨-, hf⟩ := m_chkE hf
    cases hf
    exact h_o1
  ·
    obtain ⟨-, hf⟩ := m_chkE hf
    obtain ⟨b2, -, hf⟩ := m_calE hf
    obtain ⟨v3, -, hf⟩ := m_bndE hf
    obtain ⟨-, hf⟩ := m_chkE hf
    obtain ⟨-, hf⟩ := m_chkE hf
    obtain ⟨v4, -, hf⟩ := m_bndE hf
    obtain ⟨-, hf⟩ := m_chkE hf
    obtain ⟨o5, ho, hf⟩ := m_calE hf
    have h_o5 := (ro_J0_charAt_5068e ho).trans h_o1
    clear ho
    rcases m_ifE hf with ⟨-, hf⟩ | ⟨-, hf⟩
    ·
      obtain ⟨v6, -, hf⟩ := m_bndE hf
      exact (hself21 _ _ _ _ _ _ hf).trans h_o5
    ·
      obtain ⟨-, hf⟩ := m_chkE hf
      cases hf
      exact h_o5
theorem ro_X6_holds_21   (n : Nat) : ∀ (y0 : Nat) (y1 : Nat) (y2 : Int32) (y3 : Int32) (S : ZS) (o : Int32 × ZS), f_X6_holds_21  n y0 y1 y2 y3 S = some o → o.2 = S := by
  induction n with
  | zero => intro y0 y1 y2 y3 S o hf; cases hf
  | succ n ih => intro y0 y1 y2 y3 S o hf; exact ro_X6_holds_21s  ih hf
theorem ro_X6_holds_0 {o : Int32 × ZS} {x0 : Nat} {x1 : Nat} {x2 : Int32} {S : ZS}  (hf : f_X6_holds_0 x0 x1 x2 S = some o) : o.2 = S := by
  have h_S : S = S := rfl
  unfold f_X6_holds_0 at hf
  rcases m_ifE hf with ⟨-, hf⟩ | ⟨-, hf⟩
  ·
    exact (ro_X6_holds_17  hf).trans h_S
  ·
    obtain ⟨-, hf⟩ := m_chkE hf
    obtain ⟨o1, ho, hf⟩ := m_calE hf
    have h_o1 := (ro_J0_length_8abf5 ho).trans h_S
    clear ho
    obtain ⟨v2, -, hf⟩ := m_bndE hf
    obtain ⟨-, hf⟩ := m_chkE hf
    rcases m_ifE hf with ⟨-, hf⟩ | ⟨-, hf⟩
    ·
      exact (ro_X6_holds_21  _ _ _ _ _ _ _ hf).trans h_o1
    ·
      exact (ro_X6_holds_17  hf).trans h_o1
theorem ro_X6_holds {o : Int32 × ZS} {x0 : Nat} {x1 : Nat} {x2 : Int32} {S : ZS}  (hf : f_X6_holds x0 x1 x2 S = some o) : o.2 = S := by
  have h_S : S = S := rfl
  unfold f_X6_holds at hf
  exact (ro_X6_holds_0  hf).trans h_S
theorem ro_X6_is_25 {o : Int32 × ZS} {t0 : Int32} {S : ZS}  (hf : f_X6_is_25 t0 S = some o) : o.2 = S := by
  have h_S : S = S := rfl
  unfold f_X6_is_25 at hf
  obtain ⟨-, hf⟩ := m_chkE hf
  cases hf
  exact h_S
theorem ro_X6_is_24 {o : Int32 × ZS} {S : ZS}  (hf : f_X6_is_24 S = some o) : o.2 = S := by
  have h_S : S = S := rfl
  unfold f_X6_is_24 at hf
  exact (ro_X6_is_25  hf).trans h_S
theorem ro_X6_is_0 {o : Int32 × ZS} {x0 : Nat} {x1 : Nat} {S : ZS}  (hf : f_X6_is_0 x0 x1 S = some o) : o.2 = S := by
  have h_S : S = S := rfl
  unfold f_X6_is_0 at hf
  obtain ⟨-, hf⟩ := m_chkE hf
  obtain ⟨-, hf⟩ := m_chkE hf
  obtain ⟨o1, ho, hf⟩ := m_calE hf
  have h_o1 := (ro_J0_length_8abf5 ho).trans h_S
  clear ho
  rcases m_ifE hf with ⟨-, hf⟩ | ⟨-, hf⟩
  ·
    obtain ⟨-, hf⟩ := m_chkE hf
    obtain ⟨o2, ho, hf⟩ := m_calE hf
    have h_o2 := (ro_X6_holds ho).trans h_o1
    clear ho
    rcases m_ifE hf with ⟨-, hf⟩ | ⟨-, hf⟩
    ·
      exact (ro_X6_is_24  hf).trans h_o2
    ·
      exact (ro_X6_is_25  hf).trans h_o2
  ·
    exact (ro_X6_is_24  hf).trans h_o1
theorem ro_X6_is {o : Int32 × ZS} {x0 : Nat} {x1 : Nat} {S : ZS}  (hf : f_X6_is x0 x1 S = some o) : o.2 = S := by
  have h_S : S = S := rfl
  unfold f_X6_is at hf
  exact (ro_X6_is_0  hf).trans h_S
theorem ro_X11_resultSign_0 {o : Nat × ZS} {x0 : Int32} {S : ZS}  (hf : f_X11_resultSign_0 x0 S = some o) : o.2 = S := by
  have h_S : S = S := rfl
  unfold f_X11_resultSign_0 at hf
  rcases m_ifE hf with ⟨-, hf⟩ | ⟨-, hf⟩
  ·
    cases hf
    exact h_S
  ·
    rcases m_ifE hf with ⟨-, hf⟩ | ⟨-, hf⟩
    ·
      cases hf
      exact h_S
    ·
      rcases m_ifE hf with ⟨-, hf⟩ | ⟨-, hf⟩
      ·
        cases hf
        exact h_S
      ·
        cases hf
        exact h_S
theorem ro_X11_resultSign {o : Nat × ZS} {x0 : Int32} {S : ZS}  (hf : f_X11_resultSign x0 S = some o) : o.2 = S := by
  have h_S : S = S := rfl
  unfold f_X11_resultSign at hf
  exact (ro_X11_resultSign_0  hf).trans h_S
theorem ro_X2_fault_0 {o : Int32 × ZS} {x0 : Nat} {S : ZS}  (hf : f_X2_fault_0 x0 S = some o) : o.2 = S := by
  have h_S : S = S := rfl
  unfold f_X2_fault_0 at hf
  obtain ⟨-, hf⟩ := m_chkE hf
  cases hf
  exact h_S
theorem ro_X2_fault {o : Int32 × ZS} {x0 : Nat} {S : ZS}  (hf : f_X2_fault x0 S = some o) : o.2 = S := by
  have h_S : S = S := rfl
  unfold f_X2_fault at hf
  exact (ro_X2_fault_0  hf).trans h_S
theorem ro_X6_size_0 {o : Int32 × ZS} {x0 : Nat} {S : ZS}  (hf : f_X6_size_0 x0 S = some o) : o.2 = S := by
  have h_S : S = S := rfl
  unfold f_X6_size_0 at hf
  obtain ⟨-, hf⟩ := m_chkE hf
  cases hf
  exact h_S
theorem ro_X6_size {o : Int32 × ZS} {x0 : Nat} {S : ZS}  (hf : f_X6_size x0 S = some o) : o.2 = S := by
  have h_S : S = S := rfl
  unfold f_X6_size at hf
  exact (ro_X6_size_0  hf).trans h_S
theorem ro_X11_isLetter_29 {o : Int32 × ZS} {t0 : Int32} {S : ZS}  (hf : f_X11_isLetter_29 t0 S = some o) : o.2 = S := by
  have h_S : S = S := rfl
  unfold f_X11_isLetter_29 at hf
  obtain ⟨-, hf⟩ := m_chkE hf
  cases hf
  exact h_S
theorem ro_X11_isLetter_28 {o : Int32 × ZS} {S : ZS}  (hf : f_X11_isLetter_28 S = some o) : o.2 = S := by
  have h_S : S = S := rfl
  unfold f_X11_isLetter_28 at hf
  exact (ro_X11_isLetter_29  hf).trans h_S
theorem ro_X11_isLetter_24 {o : Int32 × ZS} {S : ZS}  (hf : f_X11_isLetter_24 S = some o) : o.2 = S := by
  have h_S : S = S := rfl
  unfold f_X11_isLetter_24 at hf
  exact (ro_X11_isLetter_29  hf).trans h_S
theorem ro_X11_isLetter_12 {o : Int32 × ZS} {x0 : Int32} {S : ZS}  (hf : f_X11_isLetter_12 x0 S = some o) : o.2 = S := by
  have h_S : S = S := rfl
  unfold f_X11_isLetter_12 at hf
  rcases m_ifE hf with ⟨-, hf⟩ | ⟨-, hf⟩
  ·
    exact (ro_X11_isLetter_28  hf).trans h_S
  ·
    rcases m_ifE hf with ⟨-, hf⟩ | ⟨-, hf⟩
    ·
      exact (ro_X11_isLetter_28  hf).trans h_S
    ·
      exact (ro_X11_isLetter_24  hf).trans h_S
theorem ro_X11_isLetter_0 {o : Int32 × ZS} {x0 : Int32} {S : ZS}  (hf : f_X11_isLetter_0 x0 S = some o) : o.2 = S := by
  have h_S : S = S := rfl
  unfold f_X11_isLetter_0 at hf
  rcases m_ifE hf with ⟨-, hf⟩ | ⟨-, hf⟩
  ·
    exact (ro_X11_isLetter_12  hf).trans h_S
  ·
    rcases m_ifE hf with ⟨-, hf⟩ | ⟨-, hf⟩
    ·
      exact (ro_X11_isLetter_24  hf).trans h_S
    ·
      exact (ro_X11_isLetter_12  hf).trans h_S
theorem ro_X11_isLetter {o : Int32 × ZS} {x0 : Int32} {S : ZS}  (hf : f_X11_isLetter x0 S = some o) : o.2 = S := by
  have h_S : S = S := rfl
  unfold f_X11_isLetter at hf
  exact (ro_X11_isLetter_0  hf).trans h_S
theorem ro_X11_isDigit_17 {o : Int32 × ZS} {t0 : Int32} {S : ZS}  (hf : f_X11_isDigit_17 t0 S = some o) : o.2 = S := by
  have h_S : S = S := rfl
  unfold f_X11_isDigit_17 at hf
  obtain ⟨-, hf⟩ := m_chkE hf
  cases hf
  exact h_S
theorem ro_X11_isDigit_16 {o : Int32 × ZS} {S : ZS}  (hf : f_X11_isDigit_16 S = some o) : o.2 = S := by
  have h_S : S = S := rfl
  unfold f_X11_isDigit_16 at hf
  exact (ro_X11_isDigit_17  hf).trans h_S
theorem ro_X11_isDigit_0 {o : Int32 × ZS} {x0 : Int32} {S : ZS}  (hf : f_X11_isDigit_0 x0 S = some o) : o.2 = S := by
  have h_S : S = S := rfl
  unfold f_X11_isDigit_0 at hf
  rcases m_ifE hf with ⟨-, hf⟩ | ⟨-, hf⟩
  ·
    exact (ro_X11_isDigit_16  hf).trans h_S
  ·
    rcases m_ifE hf with ⟨-, hf⟩ | ⟨-, hf⟩
    ·
      exact (ro_X11_isDigit_16  hf).trans h_S
    ·
      exact (ro_X11_isDigit_17  hf).trans h_S
theorem ro_X11_isDigit {o : Int32 × ZS} {x0 : Int32} {S : ZS}  (hf : f_X11_isDigit x0 S = some o) : o.2 = S := by
  have h_S : S = S := rfl
  unfold f_X11_isDigit at hf
  exact (ro_X11_isDigit_0  hf).trans h_S
theorem ro_X11_isRank_17 {o : Int32 × ZS} {t0 : Int32} {S : ZS}  (hf : f_X11_isRank_17 t0 S = some o) : o.2 = S := by
  have h_S : S = S := rfl
  unfold f_X11_isRank_17 at hf
  obtain ⟨-, hf⟩ := m_chkE hf
  cases hf
  exact h_S
theorem ro_X11_isRank_16 {o : Int32 × ZS} {S : ZS}  (hf : f_X11_isRank_16 S = some o) : o.2 = S := by
  have h_S : S = S := rfl
  unfold f_X11_isRank_16 at hf
  exact (ro_X11_isRank_17  hf).trans h_S
theorem ro_X11_isRank_0 {o : Int32 × ZS} {x0 : Int32} {S : ZS}  (hf : f_X11_isRank_0 x0 S = some o) : o.2 = S := by
  have h_S : S = S := rfl
  unfold f_X11_isRank_0 at hf
  rcases m_ifE hf with ⟨-, hf⟩ | ⟨-, hf⟩
  ·
    exact (ro_X11_isRank_16  hf).trans h_S
  ·
    rcases m_ifE hf with ⟨-, hf⟩ | ⟨-, hf⟩
    ·
      exact (ro_X11_isRank_16  hf).trans h_S
    ·
      exact (ro_X11_isRank_17  hf).trans h_S
theorem ro_X11_isRank {o : Int32 × ZS} {x0 : Int32} {S : ZS}  (hf : f_X11_isRank x0 S = some o) : o.2 = S := by
  have h_S : S = S := rfl
  unfold f_X11_isRank at hf
  exact (ro_X11_isRank_0  hf).trans h_S
theorem ro_J1_canEncode_9a6ad_16 {o : Int32 × ZS} {t0 : Int32} {S : ZS}  (hf : f_J1_canEncode_9a6ad_16 t0 S = some o) : o.2 = S := by
  have h_S : S = S := rfl
  unfold f_J1_canEncode_9a6ad_16 at hf
  obtain ⟨-, hf⟩ := m_chkE hf
  cases hf
  exact h_S
theorem ro_J1_canEncode_9a6ad_15 {o : Int32 × ZS} {S : ZS}  (hf : f_J1_canEncode_9a6ad_15 S = some o) : o.2 = S := by
  have h_S : S = S := rfl
  unfold f_J1_canEncode_9a6ad_15 at hf
  exact (ro_J1_canEncode_9a6ad_16  hf).trans h_S
theorem ro_J1_canEncode_9a6ad_0 {o : Int32 × ZS} {x0 : Int32} {S : ZS}  (hf : f_J1_canEncode_9a6ad_0 x0 S = some o) : o.2 = S := by
  have h_S : S = S := rfl
  unfold f_J1_canEncode_9a6ad_0 at hf
  rcases m_ifE hf with ⟨-, hf⟩ | ⟨-, hf⟩
  ·
    exact (ro_J1_canEncode_9a6ad_15  hf).trans h_S
  ·
    rcases m_ifE hf with ⟨-, hf⟩ | ⟨-, hf⟩
    ·
      exact (ro_J1_canEncode_9a6ad_15  hf).trans h_S
    ·
      exact (ro_J1_canEncode_9a6ad_16  hf).trans h_S
theorem ro_J1_canEncode_9a6ad {o : Int32 × ZS} {x0 : Int32} {S : ZS}  (hf : f_J1_canEncode_9a6ad x0 S = some o) : o.2 = S := by
  have h_S : S = S := rfl
  unfold f_J1_canEncode_9a6ad at hf
  exact (ro_J1_canEncode_9a6ad_0  hf).trans h_S
theorem ro_J1_indexOfChar_4cfef_7s {o : Int32 × ZS} {self7 : Nat → Int32 → Int32 → Int32 → ZS → Option (Int32 × ZS)} {x0 : Nat} {x3 : Int32} {x4 : Int32} {x5 : Int32} {S : ZS} (hself7 : ∀ (z0 : Nat) (z1 : Int32) (z2 : Int32) (z3 : Int32) (S : ZS) (o : Int32 × ZS), self7 z0 z1 z2 z3 S = some o → o.2 = S) (hf : f_J1_indexOfChar_4cfef_7s self7 x0 x3 x4 x5 S = some o) : o.2 = S := by
  have h_S : S = S := rfl
  unfold f_J1_indexOfChar_4cfef_7s at hf
  rcases m_ifE hf with ⟨-, hf⟩ | ⟨-, hf⟩
  ·
    cases hf
    exact h_S
  ·
    obtain ⟨-, hf⟩ := m_chkE hf
    obtain ⟨-, hf⟩ := m_chkE hf
    obtain ⟨v1, -, hf⟩ := m_bndE hf
    rcases m_ifE hf with ⟨-, hf⟩ | ⟨-, hf⟩
    ·
      cases hf
      exact h_S
    ·
      obtain ⟨v2, -, hf⟩ := m_bndE hf
      exact (hself7 _ _ _ _ _ _ hf).trans h_S
theorem ro_J1_indexOfChar_4cfef_7   (n : Nat) : ∀ (y0 : Nat) (y1 : Int32) (y2 : Int32) (y3 : Int32) (S : ZS) (o : Int32 × ZS), f_J1_indexOfChar_4cfef_7  n y0 y1 y2 y3 S = some o → o.2 = S := by
  induction n with
  | zero => intro y0 y1 y2 y3 S o hf; cases hf
  | succ n ih => intro y0 y1 y2 y3 S o hf; exact ro_J1_indexOfChar_4cfef_7s  ih hf
theorem ro_J1_indexOfChar_4cfef_0 {o : Int32 × ZS} {x0 : Nat} {x1 : Int32} {x2 : Int32} {x3 : Int32} {S : ZS}  (hf : f_J1_indexOfChar_4cfef_0 x0 x1 x2 x3 S = some o) : o.2 = S := by
  have h_S : S = S := rfl
  unfold f_J1_indexOfChar_4cfef_0 at hf
  obtain ⟨v1, -, hf⟩ := m_bndE hf
  exact (ro_J1_indexOfChar_4cfef_7  _ _ _ _ _ _ _ hf).trans h_S
theorem ro_J1_indexOfChar_4cfef {o : Int32 × ZS} {x0 : Nat} {x1 : Int32} {x2 : Int32} {x3 : Int32} {S : ZS}  (hf : f_J1_indexOfChar_4cfef x0 x1 x2 x3 S = some o) : o.2 = S := by
  have h_S : S = S := rfl
  unfold f_J1_indexOfChar_4cfef at hf
  exact (ro_J1_indexOfChar_4cfef_0  hf).trans h_S
theorem ro_J1_indexOf_4cfef_0 {o : Int32 × ZS} {x0 : Nat} {x1 : Int32} {x2 : Int32} {x3 : Int32} {S : ZS}  (hf : f_J1_indexOf_4cfef_0 x0 x1 x2 x3 S = some o) : o.2 = S := by
  have h_S : S = S := rfl
  unfold f_J1_indexOf_4cfef_0 at hf
  obtain ⟨o1, ho, hf⟩ := m_calE hf
  have h_o1 := (ro_J1_canEncode_9a6ad ho).trans h_S
  clear ho
  rcases m_ifE hf with ⟨-, hf⟩ | ⟨-, hf⟩
  ·
    cases hf
    exact h_o1
  ·
    obtain ⟨v2, -, hf⟩ := m_bndE hf
    obtain ⟨-, hf⟩ := m_chkE hf
    obtain ⟨v3, -, hf⟩ := m_bndE hf
    obtain ⟨v4, -, hf⟩ := m_bndE hf
    rcases m_ifE hf with ⟨-, hf⟩ | ⟨-, hf⟩
    ·
      obtain ⟨o5, ho, hf⟩ := m_calE hf
      have h_o5 := (ro_J1_indexOfChar_4cfef ho).trans h_o1
      clear ho
      cases hf
      exact h_o5
    ·
      cases hf
      exact h_o1
theorem ro_J1_indexOf_4cfef {o : Int32 × ZS} {x0 : Nat} {x1 : Int32} {x2 : Int32} {x3 : Int32} {S : ZS}  (hf : f_J1_indexOf_4cfef x0 x1 x2 x3 S = some o) : o.2 = S := by
  have h_S : S = S := rfl
  unfold f_J1_indexOf_4cfef at hf
  exact (ro_J1_indexOf_4cfef_0  hf).trans h_S
theorem ro_J0_indexOf_7cf53_0 {o : Int32 × ZS} {x0 : Nat} {x1 : Int32} {x2 : Int32} {S : ZS}  (hf : f_J0_indexOf_7cf53_0 x0 x1 x2 S = some o) : o.2 = S := by
  have h_S : S = S := rfl
  unfold f_J0_indexOf_7cf53_0 at hf
  obtain ⟨-, hf⟩ := m_chkE hf
  obtain ⟨o1, ho, hf⟩ := m_calE hf
  have h_o1 := (ro_J0_isLatin1_aae02 ho).trans h_S
  clear ho
  rcases m_ifE hf with ⟨-, hf⟩ | ⟨-, hf⟩
  ·
    cases hf
  ·
    obtain ⟨-, hf⟩ := m_chkE hf
    obtain ⟨-, hf⟩ := m_chkE hf
    obtain ⟨o2, ho, hf⟩ := m_calE hf
    have h_o2 := (ro_J0_length_8abf5 ho).trans h_o1
    clear ho
    obtain ⟨o3, ho, hf⟩ := m_calE hf
    have h_o3 := (ro_J1_indexOf_4cfef ho).trans h_o2
    clear ho
    cases hf
    exact h_o3
theorem ro_J0_indexOf_7cf53 {o : Int32 × ZS} {x0 : Nat} {x1 : Int32} {x2 : Int32} {S : ZS}  (hf : f_J0_indexOf_7cf53 x0 x1 x2 S = some o) : o.2 = S := by
  have h_S : S = S := rfl
  unfold f_J0_indexOf_7cf53 at hf
  exact (ro_J0_indexOf_7cf53_0  hf).trans h_S
theorem ro_J0_indexOf_0f7a4_0 {o : Int32 × ZS} {x0 : Nat} {x1 : Int32} {S : ZS}  (hf : f_J0_indexOf_0f7a4_0 x0 x1 S = some o) : o.2 = S := by
  have h_S : S = S := rfl
  unfold f_J0_indexOf_0f7a4_0 at hf
  obtain ⟨-, hf⟩ := m_chkE hf
  obtain ⟨o1, ho, hf⟩ := m_calE hf
  have h_o1 := (ro_J0_indexOf_7cf53 ho).trans h_S
  clear ho
  cases hf
  exact h_o1
theorem ro_J0_indexOf_0f7a4 {o : Int32 × ZS} {x0 : Nat} {x1 : Int32} {S : ZS}  (hf : f_J0_indexOf_0f7a4 x0 x1 S = some o) : o.2 = S := by
  have h_S : S = S := rfl
  unfold f_J0_indexOf_0f7a4 at hf
  exact (ro_J0_indexOf_0f7a4_0  hf).trans h_S
theorem ro_X11_isFile_17 {o : Int32 × ZS} {t0 : Int32} {S : ZS}  (hf : f_X11_isFile_17 t0 S = some o) : o.2 = S := by
  have h_S : S = S := rfl
  unfold f_X11_isFile_17 at hf
  obtain ⟨-, hf⟩ := m_chkE hf
  cases hf
  exact h_S
theorem ro_X11_isFile_16 {o : Int32 × ZS} {S : ZS}  (hf : f_X11_isFile_16 S = some o) : o.2 = S := by
  have h_S : S = S := rfl
  unfold f_X11_isFile_16 at hf
  exact (ro_X11_isFile_17  hf).trans h_S
theorem ro_X11_isFile_0 {o : Int32 × ZS} {x0 : Int32} {S : ZS}  (hf : f_X11_isFile_0 x0 S = some o) : o.2 = S := by
  have h_S : S = S := rfl
  unfold f_X11_isFile_0 at hf
  rcases m_ifE hf with ⟨-, hf⟩ | ⟨-, hf⟩
  ·
    exact (ro_X11_isFile_16  hf).trans h_S
  ·
    rcases m_ifE hf with ⟨-, hf⟩ | ⟨-, hf⟩
    ·
      exact (ro_X11_isFile_16  hf).trans h_S
    ·
      exact (ro_X11_isFile_17  hf).trans h_S
theorem ro_X11_isFile {o : Int32 × ZS} {x0 : Int32} {S : ZS}  (hf : f_X11_isFile x0 S = some o) : o.2 = S := by
  have h_S : S = S := rfl
  unfold f_X11_isFile at hf
  exact (ro_X11_isFile_0  hf).trans h_S
theorem ro_X11_squareOf_30 {o : Int32 × ZS} {t0 : Int32} {S : ZS}  (hf : f_X11_squareOf_30 t0 S = some o) : o.2 = S := by
  have h_S : S = S := rfl
  unfold f_X11_squareOf_30 at hf
  cases hf
  exact h_S
theorem ro_X11_squareOf_29 {o : Int32 × ZS} {S : ZS}  (hf : f_X11_squareOf_29 S = some o) : o.2 = S := by
  have h_S : S = S := rfl
  unfold f_X11_squareOf_29 at hf
  exact (ro_X11_squareOf_30  hf).trans h_S
theorem ro_X11_squareOf_0 {o : Int32 × ZS} {x0 : Int32} {x1 : Int32} {S : ZS}  (hf : f_X11_squareOf_0 x0 x1 S = some o) : o.2 = S := by
  have h_S : S = S := rfl
  unfold f_X11_squareOf_0 at hf
  obtain ⟨o1, ho, hf⟩ := m_calE hf
  have h_o1 := (ro_X11_isFile ho).trans h_S
  clear ho
  rcases m_ifE hf with ⟨-, hf⟩ | ⟨-, hf⟩
  ·
    exact (ro_X11_squareOf_29  hf).trans h_o1
  ·
    obtain ⟨o2, ho, hf⟩ := m_calE hf
    have h_o2 := (ro_X11_isRank ho).trans h_o1
    clear ho
    rcases m_ifE hf with ⟨-, hf⟩ | ⟨-, hf⟩
    ·
      exact (ro_X11_squareOf_29  hf).trans h_o2
    ·
      obtain ⟨v3, -, hf⟩ := m_bndE hf
      obtain ⟨v4, -, hf⟩ := m_bndE hf
      obtain ⟨v5, -, hf⟩ := m_bndE hf
      obtain ⟨v6, -, hf⟩ := m_bndE hf
      exact (ro_X11_squareOf_30  hf).trans h_o2
theorem ro_X11_squareOf {o : Int32 × ZS} {x0 : Int32} {x1 : Int32} {S : ZS}  (hf : f_X11_squareOf x0 x1 S = some o) : o.2 = S := by
  have h_S : S = S := rfl
  unfold f_X11_squareOf at hf
  exact (ro_X11_squareOf_0  hf).trans h_S
theorem ro_X5_hasSoundMen_115 {o : Int32 × ZS} {t0 : Int32} {S : ZS}  (hf : f_X5_hasSoundMen_115 t0 S = some o) : o.2 = S := by
  have h_S : S = S := rfl
  unfold f_X5_hasSoundMen_115 at hf
  obtain ⟨-, hf⟩ := m_chkE hf
  cases hf
  exact h_S
theorem ro_X5_hasSoundMen_114 {o : Int32 × ZS} {S : ZS}  (hf : f_X5_hasSoundMen_114 S = some o) : o.2 = S := by
  have h_S : S = S := rfl
  unfold f_X5_hasSoundMen_114 at hf
  exact (ro_X5_hasSoundMen_115  hf).trans h_S
theorem ro_X5_hasSoundMen_73 {o : Int32 × ZS} {self6 : Nat → Int32 → Int32 → Int32 → ZS → Option (Int32 × ZS)} {x0 : Nat} {x1 : Int32} {x2 : Int32} {x3 : Int32} {S : ZS} (hself6 : ∀ (z0 : Nat) (z1 : Int32) (z2 : Int32) (z3 : Int32) (S : ZS) (o : Int32 × ZS), self6 z0 z1 z2 z3 S = some o → o.2 = S) (hf : f_X5_hasSoundMen_73 self6 x0 x1 x2 x3 S = some o) : o.2 = S := by
  have h_S : S = S := rfl
  unfold f_X5_hasSoundMen_73 at hf
  obtain ⟨v1, -, hf⟩ := m_bndE hf
  exact (hself6 _ _ _ _ _ _ hf).trans h_S
theorem ro_X5_hasSoundMen_71 {o : Int32 × ZS} {S : ZS}  (hf : f_X5_hasSoundMen_71 S = some o) : o.2 = S := by
  have h_S : S = S := rfl
  unfold f_X5_hasSoundMen_71 at hf
  obtain ⟨-, hf⟩ := m_chkE hf
  cases hf
  exact h_S
theorem ro_X5_hasSoundMen_48 {o : Int32 × ZS} {self6 : Nat → Int32 → Int32 → Int32 → ZS → Option (Int32 × ZS)} {x0 : Nat} {x1 : Int32} {x3 : Int32} {t0 : Int32} {t1 : Int32} {S : ZS} (hself6 : ∀ (z0 : Nat) (z1 : Int32) (z2 : Int32) (z3 : Int32) (S : ZS) (o : Int32 × ZS), self6 z0 z1 z2 z3 S = some o → o.2 = S) (hf : f_X5_hasSoundMen_48 self6 x0 x1 x3 t0 t1 S = some o) : o.2 = S := by
  have h_S : S = S := rfl
  unfold f_X5_hasSoundMen_48 at hf
  obtain ⟨v1, -, hf⟩ := m_bndE hf
  obtain ⟨-, hf⟩ := m_chkE hf
  obtain ⟨o2, ho, hf⟩ := m_calE hf
  have h_o2 := (ro_X0_kindAt ho).trans h_S
  clear ho
  rcases m_ifE hf with ⟨-, hf⟩ | ⟨-, hf⟩
  ·
    rcases m_ifE hf with ⟨-, hf⟩ | ⟨-, hf⟩
    ·
      exact (ro_X5_hasSoundMen_71  hf).trans h_o2
    ·
      rcases m_ifE hf with ⟨-, hf⟩ | ⟨-, hf⟩
      ·
        exact (ro_X5_hasSoundMen_73 hself6 hf).trans h_o2
      ·
        exact (ro_X5_hasSoundMen_71  hf).trans h_o2
  ·
    exact (ro_X5_hasSoundMen_73 hself6 hf).trans h_o2
theorem ro_X5_hasSoundMen_29 {o : Int32 × ZS} {self6 : Nat → Int32 → Int32 → Int32 → ZS → Option (Int32 × ZS)} {x0 : Nat} {x2 : Int32} {x3 : Int32} {t0 : Int32} {t1 : Int32} {S : ZS} (hself6 : ∀ (z0 : Nat) (z1 : Int32) (z2 : Int32) (z3 : Int32) (S : ZS) (o : Int32 × ZS), self6 z0 z1 z2 z3 S = some o → o.2 = S) (hf : f_X5_hasSoundMen_29 self6 x0 x2 x3 t0 t1 S = some o) : o.2 = S := by
  have h_S : S = S := rfl
  unfold f_X5_hasSoundMen_29 at hf
  obtain ⟨v1, -, hf⟩ := m_bndE hf
  obtain ⟨-, hf⟩ := m_chkE hf
  obtain ⟨b2, -, hf⟩ := m_calE hf
  obtain ⟨-, hf⟩ := m_chkE hf
  obtain ⟨-, hf⟩ := m_chkE hf
  obtain ⟨v3, -, hf⟩ := m_bndE hf
  rcases m_ifE hf with ⟨-, hf⟩ | ⟨-, hf⟩
  ·
    exact (ro_X5_hasSoundMen_48 hself6 hf).trans h_S
  ·
    exact (ro_X5_hasSoundMen_48 hself6 hf).trans h_S
theorem ro_X5_hasSoundMen_6s {o : Int32 × ZS} {self6 : Nat → Int32 → Int32 → Int32 → ZS → Option (Int32 × ZS)} {x0 : Nat} {x1 : Int32} {x2 : Int32} {x3 : Int32} {S : ZS} (hself6 : ∀ (z0 : Nat) (z1 : Int32) (z2 : Int32) (z3 : Int32) (S : ZS) (o : Int32 × ZS), self6 z0 z1 z2 z3 S = some o → o.2 = S) (hf : f_X5_hasSoundMen_6s self6 x0 x1 x2 x3 S = some o) : o.2 = S := by
  have h_S : S = S := rfl
  unfold f_X5_hasSoundMen_6s at hf
  rcases m_ifE hf with ⟨-, hf⟩ | ⟨-, hf⟩
  ·
    rcases m_ifE hf with ⟨-, hf⟩ | ⟨-, hf⟩
    ·
      rcases m_ifE hf with ⟨-, hf⟩ | ⟨-, hf⟩
      ·
        obtain ⟨-, hf⟩ := m_chkE hf
        obtain ⟨v1, -, hf⟩ := m_bndE hf
        obtain ⟨-, hf⟩ := m_chkE hf
        obtain ⟨o2, ho, hf⟩ := m_calE hf
        have h_o2 := (ro_X0_kingOf ho).trans h_S
        clear ho
        obtain ⟨-, hf⟩ := m_chkE hf
        obtain ⟨-, hf⟩ := m_chkE hf
        obtain ⟨o3, ho, hf⟩ := m_calE hf
        have h_o3 := (ro_X0_attacked ho).trans h_o2
        clear ho
        rcases m_ifE hf with ⟨-, hf⟩ | ⟨-, hf⟩
        ·
          exact (ro_X5_hasSoundMen_115  hf).trans h_o3
        ·
          exact (ro_X5_hasSoundMen_114  hf).trans h_o3
      ·
        exact (ro_X5_hasSoundMen_114  hf).trans h_S
    ·
      exact (ro_X5_hasSoundMen_114  hf).trans h_S
  ·
    obtain ⟨-, hf⟩ := m_chkE hf
    obtain ⟨b4, -, hf⟩ := m_calE hf
    obtain ⟨-, hf⟩ := m_chkE hf
    obtain ⟨-, hf⟩ := m_chkE hf
    obtain ⟨v5, -, hf⟩ := m_bndE hf
    rcases m_ifE hf with ⟨-, hf⟩ | ⟨-, hf⟩
    ·
      exact (ro_X5_hasSoundMen_29 hself6 hf).trans h_S
    ·
      exact (ro_X5_hasSoundMen_29 hself6 hf).trans h_S
theorem ro_X5_hasSoundMen_6   (n : Nat) : ∀ (y0 : Nat) (y1 : Int32) (y2 : Int32) (y3 : Int32) (S : ZS) (o : Int32 × ZS), f_X5_hasSoundMen_6  n y0 y1 y2 y3 S = some o → o.2 = S := by
  induction n with
  | zero => intro y0 y1 y2 y3 S o hf; cases hf
  | succ n ih => intro y0 y1 y2 y3 S o hf; exact ro_X5_hasSoundMen_6s  ih hf
theorem ro_X5_hasSoundMen_0 {o : Int32 × ZS} {x0 : Nat} {S : ZS}  (hf : f_X5_hasSoundMen_0 x0 S = some o) : o.2 = S := by
  have h_S : S = S := rfl
  unfold f_X5_hasSoundMen_0 at hf
  exact (ro_X5_hasSoundMen_6  _ _ _ _ _ _ _ hf).trans h_S
theorem ro_X5_hasSoundMen {o : Int32 × ZS} {x0 : Nat} {S : ZS}  (hf : f_X5_hasSoundMen x0 S = some o) : o.2 = S := by
  have h_S : S = S := rfl
  unfold f_X5_hasSoundMen at hf
  exact (ro_X5_hasSoundMen_0  hf).trans h_S
theorem ro_X5_hasSoundRights_92 {o : Int32 × ZS} {self2 : Nat → Int32 → ZS → Option (Int32 × ZS)} {x0 : Nat} {x1 : Int32} {S : ZS} (hself2 : ∀ (z0 : Nat) (z1 : Int32) (S : ZS) (o : Int32 × ZS), self2 z0 z1 S = some o → o.2 = S) (hf : f_X5_hasSoundRights_92 self2 x0 x1 S = some o) : o.2 = S := by
  have h_S : S = S := rfl
  unfold f_X5_hasSoundRights_92 at hf
  obtain ⟨v1, -, hf⟩ := m_bndE hf
  exact (hself2 _ _ _ _ hf).trans h_S
theorem ro_X5_hasSoundRights_90 {o : Int32 × ZS} {S : ZS}  (hf : f_X5_hasSoundRights_90 S = some o) : o.2 = S := by
  have h_S : S = S := rfl
  unfold f_X5_hasSoundRights_90 at hf
  obtain ⟨-, hf⟩ := m_chkE hf
  cases hf
  exact h_S
theorem ro_X5_hasSoundRights_50 {o : Int32 × ZS} {self2 : Nat → Int32 → ZS → Option (Int32 × ZS)} {x0 : Nat} {x1 : Int32} {x2 : Int32} {x3 : Int32} {t0 : Int32} {S : ZS} (hself2 : ∀ (z0 : Nat) (z1 : Int32) (S : ZS) (o : Int32 × ZS), self2 z0 z1 S = some o → o.2 = S) (hf : f_X5_hasSoundRights_50 self2 x0 x1 x2 x3 t0 S = some o) : o.2 = S := by
  have h_S : S = S := rfl
  unfold f_X5_hasSoundRights_50 at hf
  obtain ⟨-, hf⟩ := m_chkE hf
  obtain ⟨v1, -, hf⟩ := m_bndE hf
  obtain ⟨v2, -, hf⟩ := m_bndE hf
  rcases m_ifE hf with ⟨-, hf⟩ | ⟨-, hf⟩
  ·
    obtain ⟨-, hf⟩ := m_chkE hf
    obtain ⟨b3, -, hf⟩ := m_calE hf
    obtain ⟨-, hf⟩ := m_chkE hf
    obtain ⟨-, hf⟩ := m_chkE hf
    obtain ⟨v4, -, hf⟩ := m_bndE hf
    obtain ⟨v5, -, hf⟩ := m_bndE hf
    rcases m_ifE hf with ⟨-, hf⟩ | ⟨-, hf⟩
    ·
      obtain ⟨-, hf⟩ := m_chkE hf
      obtain ⟨b6, -, hf⟩ := m_calE hf
      obtain ⟨-, hf⟩ := m_chkE hf
      obtain ⟨-, hf⟩ := m_chkE hf
      obtain ⟨v7, -, hf⟩ := m_bndE hf
      obtain ⟨v8, -, hf⟩ := m_bndE hf
      rcases m_ifE hf with ⟨-, hf⟩ | ⟨-, hf⟩
      ·
        exact (ro_X5_hasSoundRights_92 hself2 hf).trans h_S
      ·
        exact (ro_X5_hasSoundRights_90  hf).trans h_S
    ·
      exact (ro_X5_hasSoundRights_90  hf).trans h_S
  ·
    exact (ro_X5_hasSoundRights_92 hself2 hf).trans h_S
theorem ro_X5_hasSoundRights_34 {o : Int32 × ZS} {self2 : Nat → Int32 → ZS → Option (Int32 × ZS)} {x0 : Nat} {x1 : Int32} {x2 : Int32} {t0 : Int32} {S : ZS} (hself2 : ∀ (z0 : Nat) (z1 : Int32) (S : ZS) (o : Int32 × ZS), self2 z0 z1 S = some o → o.2 = S) (hf : f_X5_hasSoundRights_34 self2 x0 x1 x2 t0 S = some o) : o.2 = S := by
  have h_S : S = S := rfl
  unfold f_X5_hasSoundRights_34 at hf
  obtain ⟨v1, -, hf⟩ := m_bndE hf
  rcases m_ifE hf with ⟨-, hf⟩ | ⟨-, hf⟩
  ·
    obtain ⟨v3, -, hf⟩ := m_bndE hf
    exact (ro_X5_hasSoundRights_50 hself2 hf).trans h_S
  ·
    obtain ⟨v2, -, hf⟩ := m_bndE hf
    exact (ro_X5_hasSoundRights_50 hself2 hf).trans h_S
theorem ro_X5_hasSoundRights_22 {o : Int32 × ZS} {self2 : Nat → Int32 → ZS → Option (Int32 × ZS)} {x0 : Nat} {x1 : Int32} {t0 : Int32} {S : ZS} (hself2 : ∀ (z0 : Nat) (z1 : Int32) (S : ZS) (o : Int32 × ZS), self2 z0 z1 S = some o → o.2 = S) (hf : f_X5_hasSoundRights_22 self2 x0 x1 t0 S = some o) : o.2 = S := by
  have h_S : S = S := rfl
  unfold f_X5_hasSoundRights_22 at hf
  rcases m_ifE hf with ⟨-, hf⟩ | ⟨-, hf⟩
  ·
    exact (ro_X5_hasSoundRights_34 hself2 hf).trans h_S
  ·
    exact (ro_X5_hasSoundRights_34 hself2 hf).trans h_S
theorem ro_X5_hasSoundRights_2s {o : Int32 × ZS} {self2 : Nat → Int32 → ZS → Option (Int32 × ZS)} {x0 : Nat} {x1 : Int32} {S : ZS} (hself2 : ∀ (z0 : Nat) (z1 : Int32) (S : ZS) (o : Int32 × ZS), self2 z0 z1 S = some o → o.2 = S) (hf : f_X5_hasSoundRights_2s self2 x0 x1 S = some o) : o.2 = S := by
  have h_S : S = S := rfl
  unfold f_X5_hasSoundRights_2s at hf
  obtain ⟨-, hf⟩ := m_chkE hf
  obtain ⟨o1, ho, hf⟩ := m_calE hf
  have h_o1 := (ro_J0_length_8abf5 ho).trans h_S
  clear ho
  rcases m_ifE hf with ⟨-, hf⟩ | ⟨-, hf⟩
  ·
    obtain ⟨-, hf⟩ := m_chkE hf
    cases hf
    exact h_o1
  ·
    rcases m_ifE hf with ⟨-, hf⟩ | ⟨-, hf⟩
    ·
      exact (ro_X5_hasSoundRights_22 hself2 hf).trans h_o1
    ·
      exact (ro_X5_hasSoundRights_22 hself2 hf).trans h_o1
theorem ro_X5_hasSoundRights_2   (n : Nat) : ∀ (y0 : Nat) (y1 : Int32) (S : ZS) (o : Int32 × ZS), f_X5_hasSoundRights_2  n y0 y1 S = some o → o.2 = S := by
  induction n with
  | zero => intro y0 y1 S o hf; cases hf
  | succ n ih => intro y0 y1 S o hf; exact ro_X5_hasSoundRights_2s  ih hf
theorem ro_X5_hasSoundRights_0 {o : Int32 × ZS} {x0 : Nat} {S : ZS}  (hf : f_X5_hasSoundRights_0 x0 S = some o) : o.2 = S := by
  have h_S : S = S := rfl
  unfold f_X5_hasSoundRights_0 at hf
  exact (ro_X5_hasSoundRights_2  _ _ _ _ _ hf).trans h_S
theorem ro_X5_hasSoundRights {o : Int32 × ZS} {x0 : Nat} {S : ZS}  (hf : f_X5_hasSoundRights x0 S = some o) : o.2 = S := by
  have h_S : S = S := rfl
  unfold f_X5_hasSoundRights at hf
  exact (ro_X5_hasSoundRights_0  hf).trans h_S
theorem ro_X5_hasSoundPassed_49 {o : Int32 × ZS} {S : ZS}  (hf : f_X5_hasSoundPassed_49 S = some o) : o.2 = S := by
  have h_S : S = S := rfl
  unfold f_X5_hasSoundPassed_49 at hf
  obtain ⟨-, hf⟩ := m_chkE hf
  cases hf
  exact h_S
theorem ro_X5_hasSoundPassed_113 {o : Int32 × ZS} {t0 : Int32} {S : ZS}  (hf : f_X5_hasSoundPassed_113 t0 S = some o) : o.2 = S := by
  have h_S : S = S := rfl
  unfold f_X5_hasSoundPassed_113 at hf
  obtain ⟨-, hf⟩ := m_chkE hf
  cases hf
  exact h_S
theorem ro_X5_hasSoundPassed_112 {o : Int32 × ZS} {S : ZS}  (hf : f_X5_hasSoundPassed_112 S = some o) : o.2 = S := by
  have h_S : S = S := rfl
  unfold f_X5_hasSoundPassed_112 at hf
  exact (ro_X5_hasSoundPassed_113  hf).trans h_S
theorem ro_X5_hasSoundPassed_62 {o : Int32 × ZS} {x0 : Nat} {x1 : Int32} {t0 : Int32} {S : ZS}  (hf : f_X5_hasSoundPassed_62 x0 x1 t0 S = some o) : o.2 = S := by
  have h_S : S = S := rfl
  unfold f_X5_hasSoundPassed_62 at hf
  obtain ⟨-, hf⟩ := m_chkE hf
  obtain ⟨b1, -, hf⟩ := m_calE hf
  obtain ⟨v2, -, hf⟩ := m_bndE hf
  obtain ⟨-, hf⟩ := m_chkE hf
  obtain ⟨-, hf⟩ := m_chkE hf
  obtain ⟨v3, -, hf⟩ := m_bndE hf
  obtain ⟨-, hf⟩ := m_chkE hf
  obtain ⟨v4, -, hf⟩ := m_bndE hf
  obtain ⟨v5, -, hf⟩ := m_bndE hf
  obtain ⟨v6, -, hf⟩ := m_bndE hf
  rcases m_ifE hf with ⟨-, hf⟩ | ⟨-, hf⟩
  ·
    obtain ⟨-, hf⟩ := m_chkE hf
    obtain ⟨b7, -, hf⟩ := m_calE hf
    obtain ⟨v8, -, hf⟩ := m_bndE hf
    obtain ⟨-, hf⟩ := m_chkE hf
    obtain ⟨-, hf⟩ := m_chkE hf
    obtain ⟨v9, -, hf⟩ := m_bndE hf
    rcases m_ifE hf with ⟨-, hf⟩ | ⟨-, hf⟩
    ·
      obtain ⟨-, hf⟩ := m_chkE hf
      obtain ⟨-, hf⟩ := m_chkE hf
      obtain ⟨o10, ho, hf⟩ := m_calE hf
      have h_o10 := (ro_X0_pawnAttacks ho).trans h_S
      clear ho
      rcases m_ifE hf with ⟨-, hf⟩ | ⟨-, hf⟩
      ·
        exact (ro_X5_hasSoundPassed_112  hf).trans h_o10
      ·
        exact (ro_X5_hasSoundPassed_113  hf).trans h_o10
    ·
      exact (ro_X5_hasSoundPassed_112  hf).trans h_S
  ·
    exact (ro_X5_hasSoundPassed_112  hf).trans h_S
theorem ro_X5_hasSoundPassed_37 {o : Int32 × ZS} {x0 : Nat} {x1 : Int32} {x2 : Int32} {t0 : Int32} {t1 : Int32} {S : ZS}  (hf : f_X5_hasSoundPassed_37 x0 x1 x2 t0 t1 S = some o) : o.2 = S := by
  have h_S : S = S := rfl
  unfold f_X5_hasSoundPassed_37 at hf
  rcases m_ifE hf with ⟨-, hf⟩ | ⟨-, hf⟩
  ·
    obtain ⟨-, hf⟩ := m_chkE hf
    obtain ⟨b1, -, hf⟩ := m_calE hf
    obtain ⟨-, hf⟩ := m_chkE hf
    obtain ⟨-, hf⟩ := m_chkE hf
    obtain ⟨v2, -, hf⟩ := m_bndE hf
    rcases m_ifE hf with ⟨-, hf⟩ | ⟨-, hf⟩
    ·
      rcases m_ifE hf with ⟨-, hf⟩ | ⟨-, hf⟩
      ·
        exact (ro_X5_hasSoundPassed_62  hf).trans h_S
      ·
        exact (ro_X5_hasSoundPassed_62  hf).trans h_S
    ·
      exact (ro_X5_hasSoundPassed_49  hf).trans h_S
  ·
    exact (ro_X5_hasSoundPassed_49  hf).trans h_S
theorem ro_X5_hasSoundPassed_24 {o : Int32 × ZS} {x0 : Nat} {x1 : Int32} {t0 : Int32} {S : ZS}  (hf : f_X5_hasSoundPassed_24 x0 x1 t0 S = some o) : o.2 = S := by
  have h_S : S = S := rfl
  unfold f_X5_hasSoundPassed_24 at hf
  obtain ⟨v1, -, hf⟩ := m_bndE hf
  rcases m_ifE hf with ⟨-, hf⟩ | ⟨-, hf⟩
  ·
    exact (ro_X5_hasSoundPassed_37  hf).trans h_S
  ·
    exact (ro_X5_hasSoundPassed_37  hf).trans h_S
theorem ro_X5_hasSoundPassed_0 {o : Int32 × ZS} {x0 : Nat} {S : ZS}  (hf : f_X5_hasSoundPassed_0 x0 S = some o) : o.2 = S := by
  have h_S : S = S := rfl
  unfold f_X5_hasSoundPassed_0 at hf
  obtain ⟨-, hf⟩ := m_chkE hf
  rcases m_ifE hf with ⟨-, hf⟩ | ⟨-, hf⟩
  ·
    obtain ⟨-, hf⟩ := m_chkE hf
    cases hf
    exact h_S
  ·
    obtain ⟨-, hf⟩ := m_chkE hf
    rcases m_ifE hf with ⟨-, hf⟩ | ⟨-, hf⟩
    ·
      exact (ro_X5_hasSoundPassed_24  hf).trans h_S
    ·
      exact (ro_X5_hasSoundPassed_24  hf).trans h_S
theorem ro_X5_hasSoundPassed {o : Int32 × ZS} {x0 : Nat} {S : ZS}  (hf : f_X5_hasSoundPassed x0 S = some o) : o.2 = S := by
  have h_S : S = S := rfl
  unfold f_X5_hasSoundPassed at hf
  exact (ro_X5_hasSoundPassed_0  hf).trans h_S
theorem ro_X6_indexOf_30 {o : Int32 × ZS} {x3 : Int32} {S : ZS}  (hf : f_X6_indexOf_30 x3 S = some o) : o.2 = S := by
  have h_S : S = S := rfl
  unfold f_X6_indexOf_30 at hf
  cases hf
  exact h_S
theorem ro_X6_indexOf_6s {o : Int32 × ZS} {self6 : Nat → Int32 → Int32 → ZS → Option (Int32 × ZS)} {x0 : Nat} {x1 : Int32} {x3 : Int32} {S : ZS} (hself6 : ∀ (z0 : Nat) (z1 : Int32) (z2 : Int32) (S : ZS) (o : Int32 × ZS), self6 z0 z1 z2 S = some o → o.2 = S) (hf : f_X6_indexOf_6s self6 x0 x1 x3 S = some o) : o.2 = S := by
  have h_S : S = S := rfl
  unfold f_X6_indexOf_6s at hf
  obtain ⟨-, hf⟩ := m_chkE hf
  rcases m_ifE hf with ⟨-, hf⟩ | ⟨-, hf⟩
  ·
    exact (ro_X6_indexOf_30  hf).trans h_S
  ·
    obtain ⟨-, hf⟩ := m_chkE hf
    obtain ⟨b1, -, hf⟩ := m_calE hf
    obtain ⟨-, hf⟩ := m_chkE hf
    obtain ⟨-, hf⟩ := m_chkE hf
    obtain ⟨v2, -, hf⟩ := m_bndE hf
    rcases m_ifE hf with ⟨-, hf⟩ | ⟨-, hf⟩
    ·
      exact (ro_X6_indexOf_30  hf).trans h_S
    ·
      obtain ⟨v3, -, hf⟩ := m_bndE hf
      exact (hself6 _ _ _ _ _ hf).trans h_S
theorem ro_X6_indexOf_6   (n : Nat) : ∀ (y0 : Nat) (y1 : Int32) (y2 : Int32) (S : ZS) (o : Int32 × ZS), f_X6_indexOf_6  n y0 y1 y2 S = some o → o.2 = S := by
  induction n with
  | zero => intro y0 y1 y2 S o hf; cases hf
  | succ n ih => intro y0 y1 y2 S o hf; exact ro_X6_indexOf_6s  ih hf
theorem ro_X6_indexOf_0 {o : Int32 × ZS} {x0 : Nat} {x1 : Int32} {x2 : Int32} {S : ZS}  (hf : f_X6_indexOf_0 x0 x1 x2 S = some o) : o.2 = S := by
  have h_S : S = S := rfl
  unfold f_X6_indexOf_0 at hf
  obtain ⟨v1, -, hf⟩ := m_bndE hf
  exact (ro_X6_indexOf_6  _ _ _ _ _ _ hf).trans h_S
theorem ro_X6_indexOf {o : Int32 × ZS} {x0 : Nat} {x1 : Int32} {x2 : Int32} {S : ZS}  (hf : f_X6_indexOf x0 x1 x2 S = some o) : o.2 = S := by
  have h_S : S = S := rfl
  unfold f_X6_indexOf at hf
  exact (ro_X6_indexOf_0  hf).trans h_S
theorem ro_X2_resultHere_2s {o : Int32 × ZS} {self2 : Nat → Int32 → ZS → Option (Int32 × ZS)} {x0 : Nat} {x1 : Int32} {S : ZS} (hself2 : ∀ (z0 : Nat) (z1 : Int32) (S : ZS) (o : Int32 × ZS), self2 z0 z1 S = some o → o.2 = S) (hf : f_X2_resultHere_2s self2 x0 x1 S = some o) : o.2 = S := by
  have h_S : S = S := rfl
  unfold f_X2_resultHere_2s at hf
  rcases m_ifE hf with ⟨-, hf⟩ | ⟨-, hf⟩
  ·
    cases hf
    exact h_S
  ·
    obtain ⟨-, hf⟩ := m_chkE hf
    obtain ⟨b1, -, hf⟩ := m_calE hf
    obtain ⟨o2, ho, hf⟩ := m_calE hf
    have h_o2 := (ro_X11_resultSign ho).trans h_S
    clear ho
    obtain ⟨-, hf⟩ := m_chkE hf
    obtain ⟨-, hf⟩ := m_chkE hf
    obtain ⟨o3, ho, hf⟩ := m_calE hf
    have h_o3 := (ro_X6_holds ho).trans h_o2
    clear ho
    rcases m_ifE hf with ⟨-, hf⟩ | ⟨-, hf⟩
    ·
      obtain ⟨v4, -, hf⟩ := m_bndE hf
      exact (hself2 _ _ _ _ hf).trans h_o3
    ·
      cases hf
      exact h_o3
theorem ro_X2_resultHere_2   (n : Nat) : ∀ (y0 : Nat) (y1 : Int32) (S : ZS) (o : Int32 × ZS), f_X2_resultHere_2  n y0 y1 S = some o → o.2 = S := by
  induction n with
  | zero => intro y0 y1 S o hf; cases hf
  | succ n ih => intro y0 y1 S o hf; exact ro_X2_resultHere_2s  ih hf
theorem ro_X2_resultHere_0 {o : Int32 × ZS} {x0 : Nat} {S : ZS}  (hf : f_X2_resultHere_0 x0 S = some o) : o.2 = S := by
  have h_S : S = S := rfl
  unfold f_X2_resultHere_0 at hf
  exact (ro_X2_resultHere_2  _ _ _ _ _ hf).trans h_S
theorem ro_X2_resultHere {o : Int32 × ZS} {x0 : Nat} {S : ZS}  (hf : f_X2_resultHere x0 S = some o) : o.2 = S := by
  have h_S : S = S := rfl
  unfold f_X2_resultHere at hf
  exact (ro_X2_resultHere_0  hf).trans h_S
theorem ro_X2_isSign_43 {o : Int32 × ZS} {t0 : Int32} {S : ZS}  (hf : f_X2_isSign_43 t0 S = some o) : o.2 = S := by
  have h_S : S = S := rfl
  unfold f_X2_isSign_43 at hf
  obtain ⟨-, hf⟩ := m_chkE hf
  cases hf
  exact h_S
theorem ro_X2_isSign_38 {o : Int32 × ZS} {S : ZS}  (hf : f_X2_isSign_38 S = some o) : o.2 = S := by
  have h_S : S = S := rfl
  unfold f_X2_isSign_38 at hf
  exact (ro_X2_isSign_43  hf).trans h_S
theorem ro_X2_isSign_0 {o : Int32 × ZS} {x0 : Int32} {S : ZS}  (hf : f_X2_isSign_0 x0 S = some o) : o.2 = S := by
  have h_S : S = S := rfl
  unfold f_X2_isSign_0 at hf
  obtain ⟨o1, ho, hf⟩ := m_calE hf
  have h_o1 := (ro_X11_isLetter ho).trans h_S
  clear ho
  rcases m_ifE hf with ⟨-, hf⟩ | ⟨-, hf⟩
  ·
    obtain ⟨o2, ho, hf⟩ := m_calE hf
    have h_o2 := (ro_X11_isDigit ho).trans h_o1
    clear ho
    rcases m_ifE hf with ⟨-, hf⟩ | ⟨-, hf⟩
    ·
      rcases m_ifE hf with ⟨-, hf⟩ | ⟨-, hf⟩
      ·
        exact (ro_X2_isSign_38  hf).trans h_o2
      ·
        rcases m_ifE hf with ⟨-, hf⟩ | ⟨-, hf⟩
        ·
          exact (ro_X2_isSign_38  hf).trans h_o2
        ·
          rcases m_ifE hf with ⟨-, hf⟩ | ⟨-, hf⟩
          ·
            exact (ro_X2_isSign_38  hf).trans h_o2
          ·
            rcases m_ifE hf with ⟨-, hf⟩ | ⟨-, hf⟩
            ·
              exact (ro_X2_isSign_38  hf).trans h_o2
            ·
              exact (ro_X2_isSign_43  hf).trans h_o2
    ·
      exact (ro_X2_isSign_38  hf).trans h_o2
  ·
    exact (ro_X2_isSign_38  hf).trans h_o1
theorem ro_X2_isSign {o : Int32 × ZS} {x0 : Int32} {S : ZS}  (hf : f_X2_isSign x0 S = some o) : o.2 = S := by
  have h_S : S = S := rfl
  unfold f_X2_isSign at hf
  exact (ro_X2_isSign_0  hf).trans h_S
theorem ro_X11_kindOf_0 {o : Int32 × ZS} {x0 : Int32} {S : ZS}  (hf : f_X11_kindOf_0 x0 S = some o) : o.2 = S := by
  have h_S : S = S := rfl
  unfold f_X11_kindOf_0 at hf
  obtain ⟨-, hf⟩ := m_chkE hf
  obtain ⟨o1, ho, hf⟩ := m_calE hf
  have h_o1 := (ro_J0_indexOf_0f7a4 ho).trans h_S
  clear ho
  obtain ⟨v2, -, hf⟩ := m_bndE hf
  cases hf
  exact h_o1
theorem ro_X11_kindOf {o : Int32 × ZS} {x0 : Int32} {S : ZS}  (hf : f_X11_kindOf x0 S = some o) : o.2 = S := by
  have h_S : S = S := rfl
  unfold f_X11_kindOf at hf
  exact (ro_X11_kindOf_0  hf).trans h_S
theorem ro_X8_fitsFrom_70 {o : Int32 × ZS} {S : ZS}  (hf : f_X8_fitsFrom_70 S = some o) : o.2 = S := by
  have h_S : S = S := rfl
  unfold f_X8_fitsFrom_70 at hf
  obtain ⟨-, hf⟩ := m_chkE hf
  cases hf
  exact h_S
theorem ro_X8_fitsFrom_158 {o : Int32 × ZS} {t0 : Int32} {S : ZS}  (hf : f_X8_fitsFrom_158 t0 S = some o) : o.2 = S := by
  have h_S : S = S := rfl
  unfold f_X8_fitsFrom_158 at hf
  obtain ⟨-, hf⟩ := m_chkE hf
  cases hf
  exact h_S
theorem ro_X8_fitsFrom_157 {o : Int32 × ZS} {S : ZS}  (hf : f_X8_fitsFrom_157 S = some o) : o.2 = S := by
  have h_S : S = S := rfl
  unfold f_X8_fitsFrom_157 at hf
  exact (ro_X8_fitsFrom_158  hf).trans h_S
theorem ro_X8_fitsFrom_150 {o : Int32 × ZS} {t0 : Int32} {t1 : Int32} {S : ZS}  (hf : f_X8_fitsFrom_150 t0 t1 S = some o) : o.2 = S := by
  have h_S : S = S := rfl
  unfold f_X8_fitsFrom_150 at hf
  rcases m_ifE hf with ⟨-, hf⟩ | ⟨-, hf⟩
  ·
    exact (ro_X8_fitsFrom_158  hf).trans h_S
  ·
    exact (ro_X8_fitsFrom_157  hf).trans h_S
theorem ro_X8_fitsFrom_129 {o : Int32 × ZS} {x0 : Nat} {x1 : Nat} {x2 : Int32} {S : ZS}  (hf : f_X8_fitsFrom_129 x0 x1 x2 S = some o) : o.2 = S := by
  have h_S : S = S := rfl
  unfold f_X8_fitsFrom_129 at hf
  obtain ⟨-, hf⟩ := m_chkE hf
  obtain ⟨-, hf⟩ := m_chkE hf
  obtain ⟨o1, ho, hf⟩ := m_calE hf
  have h_o1 := (ro_X0_becomesAnother ho).trans h_S
  clear ho
  obtain ⟨-, hf⟩ := m_chkE hf
  rcases m_ifE hf with ⟨-, hf⟩ | ⟨-, hf⟩
  ·
    exact (ro_X8_fitsFrom_150  hf).trans h_o1
  ·
    exact (ro_X8_fitsFrom_150  hf).trans h_o1
theorem ro_X8_fitsFrom_126 {o : Int32 × ZS} {x0 : Nat} {x1 : Nat} {x2 : Int32} {t0 : Int32} {t1 : Int32} {S : ZS}  (hf : f_X8_fitsFrom_126 x0 x1 x2 t0 t1 S = some o) : o.2 = S := by
  have h_S : S = S := rfl
  unfold f_X8_fitsFrom_126 at hf
  rcases m_ifE hf with ⟨-, hf⟩ | ⟨-, hf⟩
  ·
    exact (ro_X8_fitsFrom_129  hf).trans h_S
  ·
    exact (ro_X8_fitsFrom_157  hf).trans h_S
theorem ro_X8_fitsFrom_104 {o : Int32 × ZS} {x0 : Nat} {x1 : Nat} {x2 : Int32} {x3 : Int32} {S : ZS}  (hf : f_X8_fitsFrom_104 x0 x1 x2 x3 S = some o) : o.2 = S := by
  have h_S : S = S := rfl
  unfold f_X8_fitsFrom_104 at hf
  obtain ⟨-, hf⟩ := m_chkE hf
  rcases m_ifE hf with ⟨-, hf⟩ | ⟨-, hf⟩
  ·
    exact (ro_X8_fitsFrom_129  hf).trans h_S
  ·
    obtain ⟨-, hf⟩ := m_chkE hf
    rcases m_ifE hf with ⟨-, hf⟩ | ⟨-, hf⟩
    ·
      exact (ro_X8_fitsFrom_126  hf).trans h_S
    ·
      exact (ro_X8_fitsFrom_126  hf).trans h_S
theorem ro_X8_fitsFrom_72 {o : Int32 × ZS} {x0 : Nat} {x1 : Nat} {x2 : Int32} {S : ZS}  (hf : f_X8_fitsFrom_72 x0 x1 x2 S = some o) : o.2 = S := by
  have h_S : S = S := rfl
  unfold f_X8_fitsFrom_72 at hf
  obtain ⟨-, hf⟩ := m_chkE hf
  obtain ⟨-, hf⟩ := m_chkE hf
  obtain ⟨o1, ho, hf⟩ := m_calE hf
  have h_o1 := (ro_X0_takes ho).trans h_S
  clear ho
  obtain ⟨-, hf⟩ := m_chkE hf
  rcases m_ifE hf with ⟨-, hf⟩ | ⟨-, hf⟩
  ·
    rcases m_ifE hf with ⟨-, hf⟩ | ⟨-, hf⟩
    ·
      exact (ro_X8_fitsFrom_104  hf).trans h_o1
    ·
      obtain ⟨-, hf⟩ := m_chkE hf
      rcases m_ifE hf with ⟨-, hf⟩ | ⟨-, hf⟩
      ·
        obtain ⟨-, hf⟩ := m_chkE hf
        cases hf
        exact h_o1
      ·
        exact (ro_X8_fitsFrom_104  hf).trans h_o1
  ·
    exact (ro_X8_fitsFrom_104  hf).trans h_o1
theorem ro_X8_fitsFrom_52 {o : Int32 × ZS} {x0 : Nat} {x1 : Nat} {x2 : Int32} {S : ZS}  (hf : f_X8_fitsFrom_52 x0 x1 x2 S = some o) : o.2 = S := by
  have h_S : S = S := rfl
  unfold f_X8_fitsFrom_52 at hf
  obtain ⟨-, hf⟩ := m_chkE hf
  rcases m_ifE hf with ⟨-, hf⟩ | ⟨-, hf⟩
  ·
    exact (ro_X8_fitsFrom_72  hf).trans h_S
  ·
    obtain ⟨-, hf⟩ := m_chkE hf
    obtain ⟨v1, -, hf⟩ := m_bndE hf
    rcases m_ifE hf with ⟨-, hf⟩ | ⟨-, hf⟩
    ·
      exact (ro_X8_fitsFrom_72  hf).trans h_S
    ·
      exact (ro_X8_fitsFrom_70  hf).trans h_S
theorem ro_X8_fitsFrom_0 {o : Int32 × ZS} {x0 : Nat} {x1 : Nat} {x2 : Int32} {S : ZS}  (hf : f_X8_fitsFrom_0 x0 x1 x2 S = some o) : o.2 = S := by
  have h_S : S = S := rfl
  unfold f_X8_fitsFrom_0 at hf
  obtain ⟨-, hf⟩ := m_chkE hf
  obtain ⟨b1, -, hf⟩ := m_calE hf
  obtain ⟨-, hf⟩ := m_chkE hf
  obtain ⟨-, hf⟩ := m_chkE hf
  obtain ⟨v2, -, hf⟩ := m_bndE hf
  obtain ⟨-, hf⟩ := m_chkE hf
  obtain ⟨-, hf⟩ := m_chkE hf
  obtain ⟨v3, -, hf⟩ := m_bndE hf
  obtain ⟨v4, -, hf⟩ := m_bndE hf
  rcases m_ifE hf with ⟨-, hf⟩ | ⟨-, hf⟩
  ·
    obtain ⟨-, hf⟩ := m_chkE hf
    obtain ⟨-, hf⟩ := m_chkE hf
    obtain ⟨o5, ho, hf⟩ := m_calE hf
    have h_o5 := (ro_X0_castles ho).trans h_S
    clear ho
    rcases m_ifE hf with ⟨-, hf⟩ | ⟨-, hf⟩
    ·
      obtain ⟨-, hf⟩ := m_chkE hf
      rcases m_ifE hf with ⟨-, hf⟩ | ⟨-, hf⟩
      ·
        exact (ro_X8_fitsFrom_52  hf).trans h_o5
      ·
        obtain ⟨-, hf⟩ := m_chkE hf
        obtain ⟨v6, -, hf⟩ := m_bndE hf
        rcases m_ifE hf with ⟨-, hf⟩ | ⟨-, hf⟩
        ·
          exact (ro_X8_fitsFrom_52  hf).trans h_o5
        ·
          exact (ro_X8_fitsFrom_70  hf).trans h_o5
    ·
      exact (ro_X8_fitsFrom_70  hf).trans h_o5
  ·
    exact (ro_X8_fitsFrom_70  hf).trans h_S
theorem ro_X8_fitsFrom {o : Int32 × ZS} {x0 : Nat} {x1 : Nat} {x2 : Int32} {S : ZS}  (hf : f_X8_fitsFrom x0 x1 x2 S = some o) : o.2 = S := by
  have h_S : S = S := rfl
  unfold f_X8_fitsFrom at hf
  exact (ro_X8_fitsFrom_0  hf).trans h_S
theorem ro_X2_shortMark_56 {o : Int32 × ZS} {t0 : Int32} {S : ZS}  (hf : f_X2_shortMark_56 t0 S = some o) : o.2 = S := by
  have h_S : S = S := rfl
  unfold f_X2_shortMark_56 at hf
  cases hf
  exact h_S
theorem ro_X2_shortMark_27 {o : Int32 × ZS} {t0 : Int32} {S : ZS}  (hf : f_X2_shortMark_27 t0 S = some o) : o.2 = S := by
  have h_S : S = S := rfl
  unfold f_X2_shortMark_27 at hf
  cases hf
  exact h_S
theorem ro_X2_shortMark_0 {o : Int32 × ZS} {x0 : Int32} {x1 : Int32} {S : ZS}  (hf : f_X2_shortMark_0 x0 x1 S = some o) : o.2 = S := by
  have h_S : S = S := rfl
  unfold f_X2_shortMark_0 at hf
  rcases m_ifE hf with ⟨-, hf⟩ | ⟨-, hf⟩
  ·
    rcases m_ifE hf with ⟨-, hf⟩ | ⟨-, hf⟩
    ·
      exact (ro_X2_shortMark_27  hf).trans h_S
    ·
      rcases m_ifE hf with ⟨-, hf⟩ | ⟨-, hf⟩
      ·
        exact (ro_X2_shortMark_27  hf).trans h_S
      ·
        exact (ro_X2_shortMark_27  hf).trans h_S
  ·
    rcases m_ifE hf with ⟨-, hf⟩ | ⟨-, hf⟩
    ·
      rcases m_ifE hf with ⟨-, hf⟩ | ⟨-, hf⟩
      ·
        exact (ro_X2_shortMark_56  hf).trans h_S
      ·
        rcases m_ifE hf with ⟨-, hf⟩ | ⟨-, hf⟩
        ·
          exact (ro_X2_shortMark_56  hf).trans h_S
        ·
          exact (ro_X2_shortMark_56  hf).trans h_S
    ·
      cases hf
      exact h_S
theorem ro_X2_shortMark {o : Int32 × ZS} {x0 : Int32} {x1 : Int32} {S : ZS}  (hf : f_X2_shortMark x0 x1 S = some o) : o.2 = S := by
  have h_S : S = S := rfl
  unfold f_X2_shortMark at hf
  exact (ro_X2_shortMark_0  hf).trans h_S
theorem ro_X11_letterOf_25 {o : Int32 × ZS} {t0 : Int32} {S : ZS}  (hf : f_X11_letterOf_25 t0 S = some o) : o.2 = S := by
  have h_S : S = S := rfl
  unfold f_X11_letterOf_25 at hf
  obtain ⟨-, hf⟩ := m_chkE hf
  cases hf
  exact h_S
theorem ro_X11_letterOf_23 {o : Int32 × ZS} {S : ZS}  (hf : f_X11_letterOf_23 S = some o) : o.2 = S := by
  have h_S : S = S := rfl
  unfold f_X11_letterOf_23 at hf
  exact (ro_X11_letterOf_25  hf).trans h_S
theorem ro_X11_letterOf_0 {o : Int32 × ZS} {x0 : Int32} {S : ZS}  (hf : f_X11_letterOf_0 x0 S = some o) : o.2 = S := by
  have h_S : S = S := rfl
  unfold f_X11_letterOf_0 at hf
  rcases m_ifE hf with ⟨-, hf⟩ | ⟨-, hf⟩
  ·
    exact (ro_X11_letterOf_23  hf).trans h_S
  ·
    rcases m_ifE hf with ⟨-, hf⟩ | ⟨-, hf⟩
    ·
      exact (ro_X11_letterOf_23  hf).trans h_S
    ·
      obtain ⟨v1, -, hf⟩ := m_bndE hf
      obtain ⟨-, hf⟩ := m_chkE hf
      obtain ⟨o2, ho, hf⟩ := m_calE hf
      have h_o2 := (ro_J0_charAt_5068e ho).trans h_S
      clear ho
      exact (ro_X11_letterOf_25  hf).trans h_o2
theorem ro_X11_letterOf {o : Int32 × ZS} {x0 : Int32} {S : ZS}  (hf : f_X11_letterOf x0 S = some o) : o.2 = S := by
  have h_S : S = S := rfl
  unfold f_X11_letterOf at hf
  exact (ro_X11_letterOf_0  hf).trans h_S
theorem ro_X11_fileLetter_0 {o : Int32 × ZS} {x0 : Int32} {S : ZS}  (hf : f_X11_fileLetter_0 x0 S = some o) : o.2 = S := by
  have h_S : S = S := rfl
  unfold f_X11_fileLetter_0 at hf
  obtain ⟨v1, -, hf⟩ := m_bndE hf
  obtain ⟨v2, -, hf⟩ := m_bndE hf
  obtain ⟨v3, -, hf⟩ := m_bndE hf
  obtain ⟨-, hf⟩ := m_chkE hf
  cases hf
  exact h_S
theorem ro_X11_fileLetter {o : Int32 × ZS} {x0 : Int32} {S : ZS}  (hf : f_X11_fileLetter x0 S = some o) : o.2 = S := by
  have h_S : S = S := rfl
  unfold f_X11_fileLetter at hf
  exact (ro_X11_fileLetter_0  hf).trans h_S
theorem ro_X11_rankDigit_0 {o : Int32 × ZS} {x0 : Int32} {S : ZS}  (hf : f_X11_rankDigit_0 x0 S = some o) : o.2 = S := by
  have h_S : S = S := rfl
  unfold f_X11_rankDigit_0 at hf
  obtain ⟨v1, -, hf⟩ := m_bndE hf
  obtain ⟨v2, -, hf⟩ := m_bndE hf
  obtain ⟨v3, -, hf⟩ := m_bndE hf
  obtain ⟨-, hf⟩ := m_chkE hf
  cases hf
  exact h_S
theorem ro_X11_rankDigit {o : Int32 × ZS} {x0 : Int32} {S : ZS}  (hf : f_X11_rankDigit x0 S = some o) : o.2 = S := by
  have h_S : S = S := rfl
  unfold f_X11_rankDigit at hf
  exact (ro_X11_rankDigit_0  hf).trans h_S
theorem ro_X4_markAt_0 {o : Int32 × ZS} {x0 : Nat} {x1 : Int32} {S : ZS}  (hf : f_X4_markAt_0 x0 x1 S = some o) : o.2 = S := by
  have h_S : S = S := rfl
  unfold f_X4_markAt_0 at hf
  obtain ⟨-, hf⟩ := m_chkE hf
  obtain ⟨v1, -, hf⟩ := m_bndE hf
  obtain ⟨v2, -, hf⟩ := m_bndE hf
  obtain ⟨v3, -, hf⟩ := m_bndE hf
  cases hf
  exact h_S
theorem ro_X4_markAt {o : Int32 × ZS} {x0 : Nat} {x1 : Int32} {S : ZS}  (hf : f_X4_markAt x0 x1 S = some o) : o.2 = S := by
  have h_S : S = S := rfl
  unfold f_X4_markAt at hf
  exact (ro_X4_markAt_0  hf).trans h_S
theorem ro_X11_byteOf_0 {o : Int32 × ZS} {x0 : Int64} {x2 : Int32} {S : ZS}  (hf : f_X11_byteOf_0 x0 x2 S = some o) : o.2 = S := by
  have h_S : S = S := rfl
  unfold f_X11_byteOf_0 at hf
  obtain ⟨v1, -, hf⟩ := m_bndE hf
  obtain ⟨v2, -, hf⟩ := m_bndE hf
  obtain ⟨v3, -, hf⟩ := m_bndE hf
  obtain ⟨v4, -, hf⟩ := m_bndE hf
  obtain ⟨v5, -, hf⟩ := m_bndE hf
  obtain ⟨-, hf⟩ := m_chkE hf
  cases hf
  exact h_S
theorem ro_X11_byteOf {o : Int32 × ZS} {x0 : Int64} {x2 : Int32} {S : ZS}  (hf : f_X11_byteOf x0 x2 S = some o) : o.2 = S := by
  have h_S : S = S := rfl
  unfold f_X11_byteOf at hf
  exact (ro_X11_byteOf_0  hf).trans h_S
theorem ro_X11_out_0 {o : Int32 × ZS} {x0 : Nat} {x1 : Int32} {S : ZS}  (hf : f_X11_out_0 x0 x1 S = some o) : o.2 = S := by
  have h_S : S = S := rfl
  unfold f_X11_out_0 at hf
  obtain ⟨-, hf⟩ := m_chkE hf
  obtain ⟨b1, -, hf⟩ := m_calE hf
  obtain ⟨-, hf⟩ := m_chkE hf
  obtain ⟨o2, ho, hf⟩ := m_calE hf
  have h_o2 := (ro_X6_at ho).trans h_S
  clear ho
  cases hf
  exact h_o2
theorem ro_X11_out {o : Int32 × ZS} {x0 : Nat} {x1 : Int32} {S : ZS}  (hf : f_X11_out x0 x1 S = some o) : o.2 = S := by
  have h_S : S = S := rfl
  unfold f_X11_out at hf
  exact (ro_X11_out_0  hf).trans h_S
theorem ro_X11_nodes_0 {o : Int32 × ZS} {x0 : Nat} {S : ZS}  (hf : f_X11_nodes_0 x0 S = some o) : o.2 = S := by
  have h_S : S = S := rfl
  unfold f_X11_nodes_0 at hf
  obtain ⟨-, hf⟩ := m_chkE hf
  obtain ⟨b1, -, hf⟩ := m_calE hf
  obtain ⟨-, hf⟩ := m_chkE hf
  cases hf
  exact h_S
theorem ro_X11_nodes {o : Int32 × ZS} {x0 : Nat} {S : ZS}  (hf : f_X11_nodes x0 S = some o) : o.2 = S := by
  have h_S : S = S := rfl
  unfold f_X11_nodes at hf
  exact (ro_X11_nodes_0  hf).trans h_S
theorem ro_X11_here_0 {o : Int32 × ZS} {x0 : Nat} {S : ZS}  (hf : f_X11_here_0 x0 S = some o) : o.2 = S := by
  have h_S : S = S := rfl
  unfold f_X11_here_0 at hf
  obtain ⟨-, hf⟩ := m_chkE hf
  cases hf
  exact h_S
theorem ro_X11_here {o : Int32 × ZS} {x0 : Nat} {S : ZS}  (hf : f_X11_here x0 S = some o) : o.2 = S := by
  have h_S : S = S := rfl
  unfold f_X11_here at hf
  exact (ro_X11_here_0  hf).trans h_S
theorem ro_X11_result_0 {o : Int32 × ZS} {x0 : Nat} {S : ZS}  (hf : f_X11_result_0 x0 S = some o) : o.2 = S := by
  have h_S : S = S := rfl
  unfold f_X11_result_0 at hf
  obtain ⟨-, hf⟩ := m_chkE hf
  obtain ⟨b1, -, hf⟩ := m_calE hf
  obtain ⟨-, hf⟩ := m_chkE hf
  cases hf
  exact h_S
theorem ro_X11_result {o : Int32 × ZS} {x0 : Nat} {S : ZS}  (hf : f_X11_result x0 S = some o) : o.2 = S := by
  have h_S : S = S := rfl
  unfold f_X11_result at hf
  exact (ro_X11_result_0  hf).trans h_S
theorem ro_X11_tags_0 {o : Int32 × ZS} {x0 : Nat} {S : ZS}  (hf : f_X11_tags_0 x0 S = some o) : o.2 = S := by
  have h_S : S = S := rfl
  unfold f_X11_tags_0 at hf
  obtain ⟨-, hf⟩ := m_chkE hf
  obtain ⟨b1, -, hf⟩ := m_calE hf
  obtain ⟨-, hf⟩ := m_chkE hf
  cases hf
  exact h_S
theorem ro_X11_tags {o : Int32 × ZS} {x0 : Nat} {S : ZS}  (hf : f_X11_tags x0 S = some o) : o.2 = S := by
  have h_S : S = S := rfl
  unfold f_X11_tags at hf
  exact (ro_X11_tags_0  hf).trans h_S
theorem rro_kind {o : Int32 × MS} {x0 : Int32} {I : Nat → Int32} {A : Nat → Nat → Int32} (hf : f_kind x0 I A = some o) : o.2 = (I, A) := ms_ext (fw_kind hf)
theorem rro_isTaking {o : Int32 × MS} {x1 : Int32} {I : Nat → Int32} {A : Nat → Nat → Int32} (hf : f_isTaking x1 I A = some o) : o.2 = (I, A) := ms_ext (fw_isTaking hf)
theorem rro_step {o : Int32 × MS} {x0 : Int32} {x1 : Int32} {x2 : Int32} {I : Nat → Int32} {A : Nat → Nat → Int32} (hf : f_step x0 x1 x2 I A = some o) : o.2 = (I, A) := ms_ext (fw_step hf)
theorem rro_stands {o : Int32 × MS} {x1 : Int32} {x2 : Int32} {I : Nat → Int32} {A : Nat → Nat → Int32} (hf : f_stands x1 x2 I A = some o) : o.2 = (I, A) := ms_ext (fw_stands hf)
theorem rro_sideOf {o : Int32 × MS} {x0 : Int32} {I : Nat → Int32} {A : Nat → Nat → Int32} (hf : f_sideOf x0 I A = some o) : o.2 = (I, A) := ms_ext (fw_sideOf hf)
theorem rro_pawnGoes {o : Int32 × MS} {x1 : Int32} {x2 : Int32} {I : Nat → Int32} {A : Nat → Nat → Int32} (hf : f_pawnGoes x1 x2 I A = some o) : o.2 = (I, A) := ms_ext (fw_pawnGoes hf)
theorem rro_isClear {o : Int32 × MS} {x1 : Int32} {x2 : Int32} {I : Nat → Int32} {A : Nat → Nat → Int32} (hf : f_isClear x1 x2 I A = some o) : o.2 = (I, A) := ms_ext (fw_isClear hf)
theorem rro_met {o : Int32 × MS} {x1 : Int32} {x2 : Int32} {x3 : Int32} {I : Nat → Int32} {A : Nat → Nat → Int32} (hf : f_met x1 x2 x3 I A = some o) : o.2 = (I, A) := ms_ext (fw_met hf)
theorem rro_isAttacked {o : Int32 × MS} {x1 : Int32} {x2 : Int32} {I : Nat → Int32} {A : Nat → Nat → Int32} (hf : f_isAttacked x1 x2 I A = some o) : o.2 = (I, A) := ms_ext (fw_isAttacked hf)
theorem rro_mayCastle {o : Int32 × MS} {x1 : Int32} {I : Nat → Int32} {A : Nat → Nat → Int32} (hf : f_mayCastle x1 I A = some o) : o.2 = (I, A) := ms_ext (fw_mayCastle hf)
theorem rro_goes {o : Int32 × MS} {x1 : Int32} {x2 : Int32} {I : Nat → Int32} {A : Nat → Nat → Int32} (hf : f_goes x1 x2 I A = some o) : o.2 = (I, A) := ms_ext (fw_goes hf)
theorem rro_kingOf {o : Int32 × MS} {x1 : Int32} {I : Nat → Int32} {A : Nat → Nat → Int32} (hf : f_kingOf x1 I A = some o) : o.2 = (I, A) := ms_ext (fw_kingOf hf)
theorem rro_isInCheck {o : Int32 × MS} {x1 : Int32} {I : Nat → Int32} {A : Nat → Nat → Int32} (hf : f_isInCheck x1 I A = some o) : o.2 = (I, A) := ms_ext (fw_isInCheck hf)
theorem rro_thrown {o : Int32 × MS}  {I : Nat → Int32} {A : Nat → Nat → Int32} (hf : f_thrown  I A = some o) : o.2 = (I, A) := ms_ext (fw_thrown hf)
theorem rro_childWith {o : Int32 × MS} {x1 : Int32} {x2 : Int32} {x3 : Int32} {I : Nat → Int32} {A : Nat → Nat → Int32} (hf : f_childWith x1 x2 x3 I A = some o) : o.2 = (I, A) := ms_ext (fw_childWith hf)
theorem rro_isFirst {o : Int32 × MS} {x1 : Int32} {x2 : Int32} {I : Nat → Int32} {A : Nat → Nat → Int32} (hf : f_isFirst x1 x2 I A = some o) : o.2 = (I, A) := ms_ext (fw_isFirst hf)
theorem rro_deepOf {o : Int32 × MS} {x1 : Int32} {x2 : Int32} {I : Nat → Int32} {A : Nat → Nat → Int32} (hf : f_deepOf x1 x2 I A = some o) : o.2 = (I, A) := ms_ext (fw_deepOf hf)
theorem rro_letter {o : Int32 × MS} {x0 : Int32} {I : Nat → Int32} {A : Nat → Nat → Int32} (hf : f_letter x0 I A = some o) : o.2 = (I, A) := ms_ext (fw_letter hf)
theorem rro_isCastling {o : Int32 × MS} {x1 : Int32} {I : Nat → Int32} {A : Nat → Nat → Int32} (hf : f_isCastling x1 I A = some o) : o.2 = (I, A) := ms_ext (fw_isCastling hf)
theorem rro_apartOf {o : Int32 × MS} {x1 : Int32} {I : Nat → Int32} {A : Nat → Nat → Int32} (hf : f_apartOf x1 I A = some o) : o.2 = (I, A) := ms_ext (fw_apartOf hf)
theorem rro_isSpelled {o : Int32 × MS} {x1 : Int32} {x2 : Int32} {x3 : Int32} {I : Nat → Int32} {A : Nat → Nat → Int32} (hf : f_isSpelled x1 x2 x3 I A = some o) : o.2 = (I, A) := ms_ext (fw_isSpelled hf)
theorem rro_sign {o : Int32 × MS}  {I : Nat → Int32} {A : Nat → Nat → Int32} (hf : f_sign  I A = some o) : o.2 = (I, A) := ms_ext (fw_sign hf)
theorem rro_manOf {o : Int32 × MS} {x0 : Int32} {I : Nat → Int32} {A : Nat → Nat → Int32} (hf : f_manOf x0 I A = some o) : o.2 = (I, A) := ms_ext (fw_manOf hf)
theorem rro_countOf {o : Int32 × MS} {x1 : Int32} {I : Nat → Int32} {A : Nat → Nat → Int32} (hf : f_countOf x1 I A = some o) : o.2 = (I, A) := ms_ext (fw_countOf hf)
theorem rro_mayStand {o : Int32 × MS}  {I : Nat → Int32} {A : Nat → Nat → Int32} (hf : f_mayStand  I A = some o) : o.2 = (I, A) := ms_ext (fw_mayStand hf)
theorem rro_look {o : Int32 × MS}  {I : Nat → Int32} {A : Nat → Nat → Int32} (hf : f_look  I A = some o) : o.2 = (I, A) := ms_ext (fw_look hf)
theorem rro_fault {o : Int32 × MS} {x0 : Int32} {x1 : Int32} {I : Nat → Int32} {A : Nat → Nat → Int32} (hf : f_fault x0 x1 I A = some o) : o.2 = (I, A) := ms_ext (fw_fault hf)
theorem rro_isLetter {o : Int32 × MS} {x0 : Int32} {I : Nat → Int32} {A : Nat → Nat → Int32} (hf : f_isLetter x0 I A = some o) : o.2 = (I, A) := ms_ext (fw_isLetter hf)
theorem rro_isDigit {o : Int32 × MS} {x0 : Int32} {I : Nat → Int32} {A : Nat → Nat → Int32} (hf : f_isDigit x0 I A = some o) : o.2 = (I, A) := ms_ext (fw_isDigit hf)
theorem rro_isTag {o : Int32 × MS} {x1 : Int32} {x2 : Int32} {x3 : Int32} {I : Nat → Int32} {A : Nat → Nat → Int32} (hf : f_isTag x1 x2 x3 I A = some o) : o.2 = (I, A) := ms_ext (fw_isTag hf)
theorem rro_isNameThere {o : Int32 × MS} {x1 : Int32} {x2 : Int32} {I : Nat → Int32} {A : Nat → Nat → Int32} (hf : f_isNameThere x1 x2 I A = some o) : o.2 = (I, A) := ms_ext (fw_isNameThere hf)
theorem rro_goesOnWith {o : Int32 × MS} {x1 : Int32} {x2 : Int32} {x3 : Int32} {I : Nat → Int32} {A : Nat → Nat → Int32} (hf : f_goesOnWith x1 x2 x3 I A = some o) : o.2 = (I, A) := ms_ext (fw_goesOnWith hf)
theorem rro_resultHere {o : Int32 × MS}  {I : Nat → Int32} {A : Nat → Nat → Int32} (hf : f_resultHere  I A = some o) : o.2 = (I, A) := ms_ext (fw_resultHere hf)
theorem rro_resultSize {o : Int32 × MS} {x0 : Int32} {I : Nat → Int32} {A : Nat → Nat → Int32} (hf : f_resultSize x0 I A = some o) : o.2 = (I, A) := ms_ext (fw_resultSize hf)
theorem rro_resultSign {o : Int32 × MS} {x0 : Int32} {x1 : Int32} {I : Nat → Int32} {A : Nat → Nat → Int32} (hf : f_resultSign x0 x1 I A = some o) : o.2 = (I, A) := ms_ext (fw_resultSign hf)
theorem rro_isResultValue {o : Int32 × MS} {x1 : Int32} {x2 : Int32} {x3 : Int32} {I : Nat → Int32} {A : Nat → Nat → Int32} (hf : f_isResultValue x1 x2 x3 I A = some o) : o.2 = (I, A) := ms_ext (fw_isResultValue hf)
theorem rro_isLegal {o : Int32 × MS} {x1 : Int32} {I : Nat → Int32} {A : Nat → Nat → Int32} (hf : f_isLegal x1 I A = some o) : o.2 = (I, A) := ms_ext (fw_isLegal hf)
theorem rro_isNode {o : Int32 × MS} {x1 : Int32} {I : Nat → Int32} {A : Nat → Nat → Int32} (hf : f_isNode x1 I A = some o) : o.2 = (I, A) := ms_ext (fw_isNode hf)
theorem rro_isBehind {o : Int32 × MS} {x1 : Int32} {x2 : Int32} {I : Nat → Int32} {A : Nat → Nat → Int32} (hf : f_isBehind x1 x2 I A = some o) : o.2 = (I, A) := ms_ext (fw_isBehind hf)
