theorem kd_X11_signs_0 {o : (Nat × Int32) × ZS} {x0 : Nat} {x1 : Int32} {S : ZS} (hf : d_X11_signs_0 x0 x1 S = some o) : o.1.1 = 0 ∨ o.1.1 = 1 := by
  unfold d_X11_signs_0 at hf
  obtain ⟨-, hf⟩ := m_chkE hf
  obtain ⟨b1, -, hf⟩ := m_calE hf
  obtain ⟨-, hf⟩ := m_chkE hf
  obtain ⟨b2, -, hf⟩ := m_calE hf
  obtain ⟨-, hf⟩ := m_chkE hf
  obtain ⟨o3, -, hf⟩ := m_calE hf
  obtain ⟨-, hf⟩ := m_chkE hf
  rcases m_ifE hf with ⟨-, hf⟩ | ⟨-, hf⟩
  · skip
    cases hf
    exact Or.inr rfl
  · skip
    obtain ⟨-, hf⟩ := m_chkE hf
    obtain ⟨b4, -, hf⟩ := m_calE hf
    obtain ⟨-, hf⟩ := m_chkE hf
    obtain ⟨o5, -, hf⟩ := m_calE hf
    obtain ⟨-, hf⟩ := m_chkE hf
    obtain ⟨-, hf⟩ := m_chkE hf
    obtain ⟨b6, -, hf⟩ := m_calE hf
    obtain ⟨-, hf⟩ := m_chkE hf
    obtain ⟨b7, -, hf⟩ := m_calE hf
    obtain ⟨-, hf⟩ := m_chkE hf
    obtain ⟨b8, -, hf⟩ := m_calE hf
    obtain ⟨-, hf⟩ := m_chkE hf
    obtain ⟨⟨r10, S11⟩, -, hf⟩ := m_cal2E hf
    obtain ⟨-, hf⟩ := m_chkE hf
    obtain ⟨b14, -, hf⟩ := m_calE hf
    obtain ⟨-, hf⟩ := m_chkE hf
    obtain ⟨o15, -, hf⟩ := m_calE hf
    obtain ⟨-, hf⟩ := m_chkE hf
    cases hf
    exact Or.inl rfl
theorem kd_X11_signs {o : (Nat × Int32) × ZS} {x0 : Nat} {x1 : Int32} {S : ZS} (hf : d_X11_signs x0 x1 S = some o) : o.1.1 = 0 ∨ o.1.1 = 1 := by
  unfold d_X11_signs at hf
  exact kd_X11_signs_0 hf
theorem kd_X11_node_0 {o : (Nat × Int32) × ZS} {x0 : Nat} {x1 : Int32} {x2 : Int32} {S : ZS} (hf : d_X11_node_0 x0 x1 x2 S = some o) : o.1.1 = 0 ∨ o.1.1 = 2 := by
  unfold d_X11_node_0 at hf
  obtain ⟨-, hf⟩ := m_chkE hf
  obtain ⟨b1, -, hf⟩ := m_calE hf
  obtain ⟨-, hf⟩ := m_chkE hf
  obtain ⟨o2, -, hf⟩ := m_calE hf
  obtain ⟨-, hf⟩ := m_chkE hf
  rcases m_ifE hf with ⟨-, hf⟩ | ⟨-, hf⟩
  · skip
    cases hf
    exact Or.inr rfl
  · skip
    obtain ⟨-, hf⟩ := m_chkE hf
    obtain ⟨b3, -, hf⟩ := m_calE hf
    obtain ⟨-, hf⟩ := m_chkE hf
    obtain ⟨o4, -, hf⟩ := m_calE hf
    obtain ⟨-, hf⟩ := m_chkE hf
    rcases m_ifE hf with ⟨-, hf⟩ | ⟨-, hf⟩
    · skip
      obtain ⟨-, hf⟩ := m_chkE hf
      cases hf
      exact Or.inl rfl
    · skip
      rcases m_ifE hf with ⟨-, hf⟩ | ⟨-, hf⟩
      · skip
        obtain ⟨-, hf⟩ := m_chkE hf
        cases hf
        exact Or.inl rfl
      · skip
        rcases m_ifE hf with ⟨-, hf⟩ | ⟨-, hf⟩
        · skip
          obtain ⟨-, hf⟩ := m_chkE hf
          cases hf
          exact Or.inl rfl
        · skip
          rcases m_ifE hf with ⟨-, hf⟩ | ⟨-, hf⟩
          · skip
            obtain ⟨-, hf⟩ := m_chkE hf
            cases hf
            exact Or.inl rfl
          · skip
            rcases m_ifE hf with ⟨-, hf⟩ | ⟨-, hf⟩
            · skip
              obtain ⟨-, hf⟩ := m_chkE hf
              cases hf
              exact Or.inl rfl
            · skip
              rcases m_ifE hf with ⟨-, hf⟩ | ⟨-, hf⟩
              · skip
                obtain ⟨-, hf⟩ := m_chkE hf
                obtain ⟨b5, -, hf⟩ := m_calE hf
                obtain ⟨-, hf⟩ := m_chkE hf
                obtain ⟨o6, -, hf⟩ := m_calE hf
                obtain ⟨-, hf⟩ := m_chkE hf
                cases hf
                exact Or.inl rfl
              · skip
                cases hf
                exact Or.inr rfl
theorem kd_X11_node {o : (Nat × Int32) × ZS} {x0 : Nat} {x1 : Int32} {x2 : Int32} {S : ZS} (hf : d_X11_node x0 x1 x2 S = some o) : o.1.1 = 0 ∨ o.1.1 = 2 := by
  unfold d_X11_node at hf
  exact kd_X11_node_0 hf
theorem kd_X11_mark_30 {o : (Nat × Int32) × ZS} {S : ZS} (hf : d_X11_mark_30 S = some o) : o.1.1 = 0 ∨ o.1.1 = 2 := by
  unfold d_X11_mark_30 at hf
  cases hf
  exact Or.inr rfl
theorem kd_X11_mark_0 {o : (Nat × Int32) × ZS} {x0 : Nat} {x1 : Int32} {x2 : Int32} {S : ZS} (hf : d_X11_mark_0 x0 x1 x2 S = some o) : o.1.1 = 0 ∨ o.1.1 = 2 := by
  unfold d_X11_mark_0 at hf
  obtain ⟨-, hf⟩ := m_chkE hf
  obtain ⟨b1, -, hf⟩ := m_calE hf
  obtain ⟨-, hf⟩ := m_chkE hf
  obtain ⟨o2, -, hf⟩ := m_calE hf
  obtain ⟨-, hf⟩ := m_chkE hf
  rcases m_ifE hf with ⟨-, hf⟩ | ⟨-, hf⟩
  · skip
    exact kd_X11_mark_30 hf
  · skip
    rcases m_ifE hf with ⟨-, hf⟩ | ⟨-, hf⟩
    · skip
      exact kd_X11_mark_30 hf
    · skip
      obtain ⟨-, hf⟩ := m_chkE hf
      obtain ⟨b3, -, hf⟩ := m_calE hf
      obtain ⟨-, hf⟩ := m_chkE hf
      obtain ⟨o4, -, hf⟩ := m_calE hf
      obtain ⟨-, hf⟩ := m_chkE hf
      obtain ⟨-, hf⟩ := m_chkE hf
      rcases m_ifE hf with ⟨-, hf⟩ | ⟨-, hf⟩
      · skip
        obtain ⟨-, hf⟩ := m_chkE hf
        obtain ⟨b5, -, hf⟩ := m_calE hf
        obtain ⟨-, hf⟩ := m_chkE hf
        obtain ⟨o6, -, hf⟩ := m_calE hf
        obtain ⟨-, hf⟩ := m_chkE hf
        obtain ⟨-, hf⟩ := m_chkE hf
        obtain ⟨o7, -, hf⟩ := m_calE hf
        obtain ⟨-, hf⟩ := m_chkE hf
        cases hf
        exact Or.inl rfl
      · skip
        exact kd_X11_mark_30 hf
theorem kd_X11_mark {o : (Nat × Int32) × ZS} {x0 : Nat} {x1 : Int32} {x2 : Int32} {S : ZS} (hf : d_X11_mark x0 x1 x2 S = some o) : o.1.1 = 0 ∨ o.1.1 = 2 := by
  unfold d_X11_mark at hf
  exact kd_X11_mark_0 hf
theorem kd_X11_remark_33 {o : (Nat × Int32) × ZS} {S : ZS} (hf : d_X11_remark_33 S = some o) : o.1.1 = 0 ∨ o.1.1 = 2 := by
  unfold d_X11_remark_33 at hf
  cases hf
  exact Or.inr rfl
theorem kd_X11_remark_0 {o : (Nat × Int32) × ZS} {x0 : Nat} {x1 : Int32} {x2 : Int32} {S : ZS} (hf : d_X11_remark_0 x0 x1 x2 S = some o) : o.1.1 = 0 ∨ o.1.1 = 2 := by
  unfold d_X11_remark_0 at hf
  obtain ⟨-, hf⟩ := m_chkE hf
  obtain ⟨b1, -, hf⟩ := m_calE hf
  obtain ⟨-, hf⟩ := m_chkE hf
  obtain ⟨o2, -, hf⟩ := m_calE hf
  obtain ⟨-, hf⟩ := m_chkE hf
  rcases m_ifE hf with ⟨-, hf⟩ | ⟨-, hf⟩
  · skip
    exact kd_X11_remark_33 hf
  · skip
    rcases m_ifE hf with ⟨-, hf⟩ | ⟨-, hf⟩
    · skip
      exact kd_X11_remark_33 hf
    · skip
      obtain ⟨-, hf⟩ := m_chkE hf
      obtain ⟨b3, -, hf⟩ := m_calE hf
      obtain ⟨-, hf⟩ := m_chkE hf
      obtain ⟨o4, -, hf⟩ := m_calE hf
      obtain ⟨-, hf⟩ := m_chkE hf
      obtain ⟨-, hf⟩ := m_chkE hf
      obtain ⟨b5, -, hf⟩ := m_calE hf
      obtain ⟨-, hf⟩ := m_chkE hf
      obtain ⟨o6, -, hf⟩ := m_calE hf
      obtain ⟨-, hf⟩ := m_chkE hf
      rcases m_ifE hf with ⟨-, hf⟩ | ⟨-, hf⟩
      · skip
        obtain ⟨-, hf⟩ := m_chkE hf
        obtain ⟨b7, -, hf⟩ := m_calE hf
        obtain ⟨-, hf⟩ := m_chkE hf
        obtain ⟨o8, -, hf⟩ := m_calE hf
        obtain ⟨-, hf⟩ := m_chkE hf
        obtain ⟨-, hf⟩ := m_chkE hf
        obtain ⟨b9, -, hf⟩ := m_calE hf
        obtain ⟨-, hf⟩ := m_chkE hf
        obtain ⟨o10, -, hf⟩ := m_calE hf
        obtain ⟨-, hf⟩ := m_chkE hf
        cases hf
        exact Or.inl rfl
      · skip
        exact kd_X11_remark_33 hf
theorem kd_X11_remark {o : (Nat × Int32) × ZS} {x0 : Nat} {x1 : Int32} {x2 : Int32} {S : ZS} (hf : d_X11_remark x0 x1 x2 S = some o) : o.1.1 = 0 ∨ o.1.1 = 2 := by
  unfold d_X11_remark at hf
  exact kd_X11_remark_0 hf
theorem kd_X11_go_0 {o : (Nat × Int32) × ZS} {x0 : Nat} {x1 : Int32} {S : ZS} (hf : d_X11_go_0 x0 x1 S = some o) : o.1.1 = 0 ∨ o.1.1 = 2 := by
  unfold d_X11_go_0 at hf
  obtain ⟨-, hf⟩ := m_chkE hf
  obtain ⟨b1, -, hf⟩ := m_calE hf
  obtain ⟨-, hf⟩ := m_chkE hf
  obtain ⟨o2, -, hf⟩ := m_calE hf
  obtain ⟨-, hf⟩ := m_chkE hf
  rcases m_ifE hf with ⟨-, hf⟩ | ⟨-, hf⟩
  · skip
    cases hf
    exact Or.inr rfl
  · skip
    obtain ⟨-, hf⟩ := m_chkE hf
    obtain ⟨S3, -, hf⟩ := m_bndE hf
    obtain ⟨-, hf⟩ := m_chkE hf
    obtain ⟨b4, -, hf⟩ := m_calE hf
    obtain ⟨-, hf⟩ := m_chkE hf
    obtain ⟨b5, -, hf⟩ := m_calE hf
    obtain ⟨-, hf⟩ := m_chkE hf
    obtain ⟨o6, -, hf⟩ := m_calE hf
    obtain ⟨-, hf⟩ := m_chkE hf
    cases hf
    exact Or.inl rfl
theorem kd_X11_go {o : (Nat × Int32) × ZS} {x0 : Nat} {x1 : Int32} {S : ZS} (hf : d_X11_go x0 x1 S = some o) : o.1.1 = 0 ∨ o.1.1 = 2 := by
  unfold d_X11_go at hf
  exact kd_X11_go_0 hf
theorem kd_X11_man_10 {o : (Nat × Int32) × ZS} {S : ZS} (hf : d_X11_man_10 S = some o) : o.1.1 = 0 ∨ o.1.1 = 2 := by
  unfold d_X11_man_10 at hf
  cases hf
  exact Or.inr rfl
theorem kd_X11_man_0 {o : (Nat × Int32) × ZS} {x0 : Nat} {x1 : Int32} {S : ZS} (hf : d_X11_man_0 x0 x1 S = some o) : o.1.1 = 0 ∨ o.1.1 = 2 := by
  unfold d_X11_man_0 at hf
  rcases m_ifE hf with ⟨-, hf⟩ | ⟨-, hf⟩
  · skip
    exact kd_X11_man_10 hf
  · skip
    rcases m_ifE hf with ⟨-, hf⟩ | ⟨-, hf⟩
    · skip
      obtain ⟨-, hf⟩ := m_chkE hf
      obtain ⟨b1, -, hf⟩ := m_calE hf
      obtain ⟨-, hf⟩ := m_chkE hf
      obtain ⟨b2, -, hf⟩ := m_calE hf
      obtain ⟨-, hf⟩ := m_chkE hf
      obtain ⟨-, hf⟩ := m_chkE hf
      obtain ⟨v3, -, hf⟩ := m_bndE hf
      cases hf
      exact Or.inl rfl
    · skip
      exact kd_X11_man_10 hf
theorem kd_X11_man {o : (Nat × Int32) × ZS} {x0 : Nat} {x1 : Int32} {S : ZS} (hf : d_X11_man x0 x1 S = some o) : o.1.1 = 0 ∨ o.1.1 = 2 := by
  unfold d_X11_man at hf
  exact kd_X11_man_0 hf
theorem kd_X11_add_95 {o : (Nat × Int32) × ZS} {x0 : Nat} {x1 : Int32} {x2 : Int32} {S : ZS} (hf : d_X11_add_95 x0 x1 x2 S = some o) : o.1.1 = 0 ∨ o.1.1 = 1 ∨ o.1.1 = 3 := by
  unfold d_X11_add_95 at hf
  obtain ⟨-, hf⟩ := m_chkE hf
  obtain ⟨S1, -, hf⟩ := m_bndE hf
  obtain ⟨-, hf⟩ := m_chkE hf
  obtain ⟨b2, -, hf⟩ := m_calE hf
  obtain ⟨-, hf⟩ := m_chkE hf
  obtain ⟨o3, -, hf⟩ := m_calE hf
  obtain ⟨-, hf⟩ := m_chkE hf
  cases hf
  exact Or.inl rfl
theorem kd_X11_add_72 {o : (Nat × Int32) × ZS} {S : ZS} (hf : d_X11_add_72 S = some o) : o.1.1 = 0 ∨ o.1.1 = 1 ∨ o.1.1 = 3 := by
  unfold d_X11_add_72 at hf
  cases hf
  exact Or.inr (Or.inr rfl)
theorem kd_X11_add_0 {o : (Nat × Int32) × ZS} {x0 : Nat} {x1 : Int32} {S : ZS} (hf : d_X11_add_0 x0 x1 S = some o) : o.1.1 = 0 ∨ o.1.1 = 1 ∨ o.1.1 = 3 := by
  unfold d_X11_add_0 at hf
  obtain ⟨-, hf⟩ := m_chkE hf
  obtain ⟨b1, -, hf⟩ := m_calE hf
  obtain ⟨-, hf⟩ := m_chkE hf
  obtain ⟨b2, -, hf⟩ := m_calE hf
  obtain ⟨-, hf⟩ := m_chkE hf
  obtain ⟨o3, -, hf⟩ := m_calE hf
  obtain ⟨-, hf⟩ := m_chkE hf
  rcases m_ifE hf with ⟨-, hf⟩ | ⟨-, hf⟩
  · skip
    cases hf
    exact Or.inr (Or.inl rfl)
  · skip
    obtain ⟨-, hf⟩ := m_chkE hf
    obtain ⟨b4, -, hf⟩ := m_calE hf
    obtain ⟨-, hf⟩ := m_chkE hf
    obtain ⟨-, hf⟩ := m_chkE hf
    obtain ⟨o5, -, hf⟩ := m_calE hf
    obtain ⟨-, hf⟩ := m_chkE hf
    rcases m_ifE hf with ⟨-, hf⟩ | ⟨-, hf⟩
    · skip
      obtain ⟨-, hf⟩ := m_chkE hf
      obtain ⟨b6, -, hf⟩ := m_calE hf
      obtain ⟨-, hf⟩ := m_chkE hf
      rcases m_ifE hf with ⟨-, hf⟩ | ⟨-, hf⟩
      · skip
        exact kd_X11_add_72 hf
      · skip
        obtain ⟨-, hf⟩ := m_chkE hf
        obtain ⟨b7, -, hf⟩ := m_calE hf
        obtain ⟨-, hf⟩ := m_chkE hf
        obtain ⟨-, hf⟩ := m_chkE hf
        obtain ⟨o8, -, hf⟩ := m_calE hf
        obtain ⟨-, hf⟩ := m_chkE hf
        rcases m_ifE hf with ⟨-, hf⟩ | ⟨-, hf⟩
        · skip
          obtain ⟨-, hf⟩ := m_chkE hf
          obtain ⟨b9, -, hf⟩ := m_calE hf
          obtain ⟨-, hf⟩ := m_chkE hf
          obtain ⟨-, hf⟩ := m_chkE hf
          obtain ⟨⟨r11, S12⟩, -, hf⟩ := m_cal2E hf
          exact kd_X11_add_95 hf
        · skip
          exact kd_X11_add_72 hf
    · skip
      exact kd_X11_add_95 hf
theorem kd_X11_add {o : (Nat × Int32) × ZS} {x0 : Nat} {x1 : Int32} {S : ZS} (hf : d_X11_add x0 x1 S = some o) : o.1.1 = 0 ∨ o.1.1 = 1 ∨ o.1.1 = 3 := by
  unfold d_X11_add at hf
  exact kd_X11_add_0 hf
theorem kd_X11_addMark_11 {o : (Nat × Int32) × ZS} {S : ZS} (hf : d_X11_addMark_11 S = some o) : o.1.1 = 0 ∨ o.1.1 = 1 ∨ o.1.1 = 4 := by
  unfold d_X11_addMark_11 at hf
  cases hf
  exact Or.inr (Or.inl rfl)
theorem kd_X11_addMark_48 {o : (Nat × Int32) × ZS} {S : ZS} (hf : d_X11_addMark_48 S = some o) : o.1.1 = 0 ∨ o.1.1 = 1 ∨ o.1.1 = 4 := by
  unfold d_X11_addMark_48 at hf
  cases hf
  exact Or.inr (Or.inr rfl)
theorem kd_X11_addMark_0 {o : (Nat × Int32) × ZS} {x0 : Nat} {x1 : Int32} {S : ZS} (hf : d_X11_addMark_0 x0 x1 S = some o) : o.1.1 = 0 ∨ o.1.1 = 1 ∨ o.1.1 = 4 := by
  unfold d_X11_addMark_0 at hf
  rcases m_ifE hf with ⟨-, hf⟩ | ⟨-, hf⟩
  · skip
    exact kd_X11_addMark_11 hf
  · skip
    rcases m_ifE hf with ⟨-, hf⟩ | ⟨-, hf⟩
    · skip
      obtain ⟨-, hf⟩ := m_chkE hf
      obtain ⟨b1, -, hf⟩ := m_calE hf
      obtain ⟨-, hf⟩ := m_chkE hf
      obtain ⟨-, hf⟩ := m_chkE hf
      obtain ⟨o2, -, hf⟩ := m_calE hf
      obtain ⟨-, hf⟩ := m_chkE hf
      obtain ⟨-, hf⟩ := m_chkE hf
      rcases m_ifE hf with ⟨-, hf⟩ | ⟨-, hf⟩
      · skip
        exact kd_X11_addMark_48 hf
      · skip
        obtain ⟨-, hf⟩ := m_chkE hf
        rcases m_ifE hf with ⟨-, hf⟩ | ⟨-, hf⟩
        · skip
          obtain ⟨-, hf⟩ := m_chkE hf
          obtain ⟨o3, -, hf⟩ := m_calE hf
          obtain ⟨-, hf⟩ := m_chkE hf
          obtain ⟨-, hf⟩ := m_chkE hf
          cases hf
          exact Or.inl rfl
        · skip
          exact kd_X11_addMark_48 hf
    · skip
      exact kd_X11_addMark_11 hf
theorem kd_X11_addMark {o : (Nat × Int32) × ZS} {x0 : Nat} {x1 : Int32} {S : ZS} (hf : d_X11_addMark x0 x1 S = some o) : o.1.1 = 0 ∨ o.1.1 = 1 ∨ o.1.1 = 4 := by
  unfold d_X11_addMark at hf
  exact kd_X11_addMark_0 hf
theorem kd_X11_say_43 {o : (Nat × Int32) × ZS} {S : ZS} (hf : d_X11_say_43 S = some o) : o.1.1 = 0 ∨ o.1.1 = 1 := by
  unfold d_X11_say_43 at hf
  cases hf
  exact Or.inr rfl
theorem kd_X11_say_0 {o : (Nat × Int32) × ZS} {x0 : Nat} {S : ZS} (hf : d_X11_say_0 x0 S = some o) : o.1.1 = 0 ∨ o.1.1 = 1 := by
  unfold d_X11_say_0 at hf
  obtain ⟨-, hf⟩ := m_chkE hf
  obtain ⟨b1, -, hf⟩ := m_calE hf
  obtain ⟨-, hf⟩ := m_chkE hf
  obtain ⟨o2, -, hf⟩ := m_calE hf
  obtain ⟨-, hf⟩ := m_chkE hf
  rcases m_ifE hf with ⟨-, hf⟩ | ⟨-, hf⟩
  · skip
    exact kd_X11_say_43 hf
  · skip
    obtain ⟨-, hf⟩ := m_chkE hf
    obtain ⟨b3, -, hf⟩ := m_calE hf
    obtain ⟨-, hf⟩ := m_chkE hf
    obtain ⟨o4, -, hf⟩ := m_calE hf
    obtain ⟨-, hf⟩ := m_chkE hf
    rcases m_ifE hf with ⟨-, hf⟩ | ⟨-, hf⟩
    · skip
      exact kd_X11_say_43 hf
    · skip
      obtain ⟨-, hf⟩ := m_chkE hf
      obtain ⟨b5, -, hf⟩ := m_calE hf
      obtain ⟨-, hf⟩ := m_chkE hf
      obtain ⟨o6, -, hf⟩ := m_calE hf
      obtain ⟨-, hf⟩ := m_chkE hf
      rcases m_ifE hf with ⟨-, hf⟩ | ⟨-, hf⟩
      · skip
        obtain ⟨-, hf⟩ := m_chkE hf
        obtain ⟨b7, -, hf⟩ := m_calE hf
        obtain ⟨-, hf⟩ := m_chkE hf
        obtain ⟨-, hf⟩ := m_chkE hf
        obtain ⟨o8, -, hf⟩ := m_calE hf
        obtain ⟨-, hf⟩ := m_chkE hf
        obtain ⟨-, hf⟩ := m_chkE hf
        obtain ⟨b9, -, hf⟩ := m_calE hf
        obtain ⟨-, hf⟩ := m_chkE hf
        obtain ⟨b10, -, hf⟩ := m_calE hf
        obtain ⟨-, hf⟩ := m_chkE hf
        obtain ⟨⟨r12, S13⟩, -, hf⟩ := m_cal2E hf
        obtain ⟨-, hf⟩ := m_chkE hf
        obtain ⟨b16, -, hf⟩ := m_calE hf
        obtain ⟨-, hf⟩ := m_chkE hf
        obtain ⟨o17, -, hf⟩ := m_calE hf
        obtain ⟨-, hf⟩ := m_chkE hf
        cases hf
        exact Or.inl rfl
      · skip
        exact kd_X11_say_43 hf
theorem kd_X11_say {o : (Nat × Int32) × ZS} {x0 : Nat} {S : ZS} (hf : d_X11_say x0 S = some o) : o.1.1 = 0 ∨ o.1.1 = 1 := by
  unfold d_X11_say at hf
  exact kd_X11_say_0 hf
theorem kd_X11_lead_0 {o : (Nat × Int32) × ZS} {x0 : Nat} {S : ZS} (hf : d_X11_lead_0 x0 S = some o) : o.1.1 = 0 ∨ o.1.1 = 4 := by
  unfold d_X11_lead_0 at hf
  obtain ⟨-, hf⟩ := m_chkE hf
  rcases m_ifE hf with ⟨-, hf⟩ | ⟨-, hf⟩
  · skip
    cases hf
    exact Or.inr rfl
  · skip
    obtain ⟨-, hf⟩ := m_chkE hf
    obtain ⟨b1, -, hf⟩ := m_calE hf
    obtain ⟨-, hf⟩ := m_chkE hf
    obtain ⟨-, hf⟩ := m_chkE hf
    obtain ⟨o2, -, hf⟩ := m_calE hf
    obtain ⟨-, hf⟩ := m_chkE hf
    rcases m_ifE hf with ⟨-, hf⟩ | ⟨-, hf⟩
    · skip
      obtain ⟨-, hf⟩ := m_chkE hf
      obtain ⟨b3, -, hf⟩ := m_calE hf
      obtain ⟨-, hf⟩ := m_chkE hf
      obtain ⟨-, hf⟩ := m_chkE hf
      obtain ⟨o4, -, hf⟩ := m_calE hf
      obtain ⟨-, hf⟩ := m_chkE hf
      rcases m_ifE hf with ⟨-, hf⟩ | ⟨-, hf⟩
      · skip
        cases hf
        exact Or.inr rfl
      · skip
        obtain ⟨-, hf⟩ := m_chkE hf
        obtain ⟨b5, -, hf⟩ := m_calE hf
        obtain ⟨-, hf⟩ := m_chkE hf
        obtain ⟨-, hf⟩ := m_chkE hf
        obtain ⟨o6, -, hf⟩ := m_calE hf
        obtain ⟨-, hf⟩ := m_chkE hf
        obtain ⟨-, hf⟩ := m_chkE hf
        cases hf
        exact Or.inl rfl
    · skip
      obtain ⟨-, hf⟩ := m_chkE hf
      cases hf
      exact Or.inl rfl
theorem kd_X11_lead {o : (Nat × Int32) × ZS} {x0 : Nat} {S : ZS} (hf : d_X11_lead x0 S = some o) : o.1.1 = 0 ∨ o.1.1 = 4 := by
  unfold d_X11_lead at hf
  exact kd_X11_lead_0 hf
theorem kd_X11_end_9 {o : (Nat × Int32) × ZS} {S : ZS} (hf : d_X11_end_9 S = some o) : o.1.1 = 0 ∨ o.1.1 = 1 := by
  unfold d_X11_end_9 at hf
  cases hf
  exact Or.inr rfl
theorem kd_X11_end_0 {o : (Nat × Int32) × ZS} {x0 : Nat} {x1 : Int32} {S : ZS} (hf : d_X11_end_0 x0 x1 S = some o) : o.1.1 = 0 ∨ o.1.1 = 1 := by
  unfold d_X11_end_0 at hf
  rcases m_ifE hf with ⟨-, hf⟩ | ⟨-, hf⟩
  · skip
    exact kd_X11_end_9 hf
  · skip
    rcases m_ifE hf with ⟨-, hf⟩ | ⟨-, hf⟩
    · skip
      obtain ⟨-, hf⟩ := m_chkE hf
      obtain ⟨b1, -, hf⟩ := m_calE hf
      obtain ⟨-, hf⟩ := m_chkE hf
      obtain ⟨S2, -, hf⟩ := m_bndE hf
      cases hf
      exact Or.inl rfl
    · skip
      exact kd_X11_end_9 hf
theorem kd_X11_end {o : (Nat × Int32) × ZS} {x0 : Nat} {x1 : Int32} {S : ZS} (hf : d_X11_end x0 x1 S = some o) : o.1.1 = 0 ∨ o.1.1 = 1 := by
  unfold d_X11_end at hf
  exact kd_X11_end_0 hf
theorem kd_X11_tag_19 {o : (Nat × Int32) × ZS} {S : ZS} (hf : d_X11_tag_19 S = some o) : o.1.1 = 0 ∨ o.1.1 = 2 := by
  unfold d_X11_tag_19 at hf
  cases hf
  exact Or.inr rfl
theorem kd_X11_tag_65 {o : (Nat × Int32) × ZS} {t0 : Int32} {S : ZS} (hf : d_X11_tag_65 t0 S = some o) : o.1.1 = 0 ∨ o.1.1 = 2 := by
  unfold d_X11_tag_65 at hf
  cases hf
  exact Or.inl rfl
theorem kd_X11_tag_0 {o : (Nat × Int32) × ZS} {x0 : Nat} {x1 : Int32} {x2 : Int32} {x3 : Int32} {S : ZS} (hf : d_X11_tag_0 x0 x1 x2 x3 S = some o) : o.1.1 = 0 ∨ o.1.1 = 2 := by
  unfold d_X11_tag_0 at hf
  rcases m_ifE hf with ⟨-, hf⟩ | ⟨-, hf⟩
  · skip
    exact kd_X11_tag_19 hf
  · skip
    obtain ⟨-, hf⟩ := m_chkE hf
    obtain ⟨b1, -, hf⟩ := m_calE hf
    obtain ⟨-, hf⟩ := m_chkE hf
    rcases m_ifE hf with ⟨-, hf⟩ | ⟨-, hf⟩
    · skip
      exact kd_X11_tag_19 hf
    · skip
      rcases m_ifE hf with ⟨-, hf⟩ | ⟨-, hf⟩
      · skip
        obtain ⟨-, hf⟩ := m_chkE hf
        obtain ⟨b2, -, hf⟩ := m_calE hf
        obtain ⟨-, hf⟩ := m_chkE hf
        obtain ⟨⟨r4, S5⟩, -, hf⟩ := m_cal2E hf
        rcases m_ifE hf with ⟨-, hf⟩ | ⟨-, hf⟩
        · skip
          obtain ⟨-, hf⟩ := m_chkE hf
          obtain ⟨b8, -, hf⟩ := m_calE hf
          obtain ⟨-, hf⟩ := m_chkE hf
          obtain ⟨o9, -, hf⟩ := m_calE hf
          obtain ⟨-, hf⟩ := m_chkE hf
          exact kd_X11_tag_65 hf
        · skip
          obtain ⟨-, hf⟩ := m_chkE hf
          obtain ⟨b10, -, hf⟩ := m_calE hf
          obtain ⟨-, hf⟩ := m_chkE hf
          obtain ⟨o11, -, hf⟩ := m_calE hf
          obtain ⟨-, hf⟩ := m_chkE hf
          exact kd_X11_tag_65 hf
      · skip
        exact kd_X11_tag_19 hf
theorem kd_X11_tag {o : (Nat × Int32) × ZS} {x0 : Nat} {x1 : Int32} {x2 : Int32} {x3 : Int32} {S : ZS} (hf : d_X11_tag x0 x1 x2 x3 S = some o) : o.1.1 = 0 ∨ o.1.1 = 2 := by
  unfold d_X11_tag at hf
  exact kd_X11_tag_0 hf
