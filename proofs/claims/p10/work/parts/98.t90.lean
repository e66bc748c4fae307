/-- the reference's text as a list -/
noncomputable def TXl (I : Nat → Int32) (A : Nat → Nat → Int32) (w : List Int) : Prop := (I 1).toInt = (w.length : Int) ∧ ∀ i, txR I A i = wA w i
section TYR
variable {I : Nat → Int32} {A : Nat → Nat → Int32} {x : Int64} {x3 : Int32} {w : List Int} {L : Nat} {o : Int32 × MS}
theorem txl_a {I' : Nat → Int32} {A' : Nat → Nat → Int32} {v c : Int32} (h : TXl I A w) (eA : A' = va_up A 2 (upd (A 2) (I 1).toNatClampNeg c)) (eI : I' = upd I 1 v) (hv : v.toInt = (w.length : Int) + 1) : TXl I' A' (w ++ [c.toInt]) := by
  have j1 : I' 1 = v := by rw [eI, upd_self]
  have cl : (I 1).toNatClampNeg = w.length := cl_n h.1
  refine ⟨by rw [j1, hv, List.length_append]; rfl, fun i => ?_⟩
  rw [wA_app, ← h.2 i]
  unfold txR
  rw [j1, hv, h.1, eA, va_up_self, cl]
  by_cases e : i = (w.length : Int)
  · rw [if_pos e, if_pos (by omega), e, Int.toNat_natCast, upd_self]
  · rw [if_neg e]
    by_cases e2 : 0 ≤ i ∧ i < (w.length : Int)
    · rw [if_pos (by omega), if_pos e2, upd_ne (by omega)]
    · rw [if_neg (by omega), if_neg e2]
theorem tr_90 (h3 : x3.toInt = (L : Int)) (hL : L ≤ 8) (hw : w.length + L ≤ 2000) : ∀ (n : Nat) (x4 : Int32) (k : Nat) (I : Nat → Int32) (A : Nat → Nat → Int32), x4.toInt = (k : Int) → k ≤ L → TXl I A (w ++ bys x k) → f_type_90 n x x3 x4 I A = some o → o.1.toInt = 1 ∧ TXl o.2.1 o.2.2 (w ++ bys x L) := by
  intro n
  induction n with
  | zero => intro x4 k I A _ _ _ hf; cases hf
  | succ n ih =>
    intro x4 k I A h4 hk ht hf
    have hf : f_type_90s (f_type_90 n) x x3 x4 I A = some o := hf
    have ll : (w ++ bys x k).length = w.length + k := by rw [List.length_append, bys_l]
    have i1 := ht.1
    rw [ll] at i1
    unfold f_type_90s at hf
    rcases m_ifE hf with ⟨c1, hf⟩ | ⟨c1, hf⟩
    · replace c1 := ti_leP (a := x3) (b := x4) c1 rfl rfl
      obtain ⟨-, hf⟩ := m_chkE hf
      cases hf
      have e : k = L := by omega
      rw [e] at ht
      exact ⟨rfl, ht⟩
    · replace c1 := ti_leN (a := x3) (b := x4) c1 rfl rfl
      obtain ⟨v1, e1, hf⟩ := m_bndE hf
      obtain ⟨v2, e2, hf⟩ := m_bndE hf
      obtain ⟨v3, e3, hf⟩ := m_bndE hf
      obtain ⟨v4, e4, hf⟩ := m_bndE hf
      obtain ⟨v5, e5, hf⟩ := m_bndE hf
      have q5 : v5 = tyB x x4 := by
        unfold tyB tyR
        rw [e5, e4, e3, e2, e1]
      obtain ⟨-, hf⟩ := m_chkE hf
      obtain ⟨A6, e6, hf⟩ := m_bndE hf
      rw [q5, ty_b.1] at e6
      obtain ⟨v7, e7, hf⟩ := m_bndE hf
      have t7 : v7.toInt = (I 1).toInt + 1 := ti_add e7 rfl (show (1 : Int32).toInt = 1 from rfl) (by omega) (by omega)
      obtain ⟨I8, e8, hf⟩ := m_bndE hf
      obtain ⟨v9, e9, hf⟩ := m_bndE hf
      have t9 : v9.toInt = x4.toInt + 1 := ti_add e9 rfl (show (1 : Int32).toInt = 1 from rfl) (by omega) (by omega)
      have g := txl_a ht e6 e8 (by rw [ll]; omega)
      refine ih v9 (k + 1) I8 A6 (by omega) (by omega) ?_ hf
      have ex : x4 = Int32.ofInt (k : Int) := i32_of h4
      rw [ex, List.append_assoc] at g
      exact g
theorem tr_33 (h3 : x3.toInt = (L : Int)) (hL : L ≤ 8) : ∀ (n : Nat) (x4 : Int32), 0 ≤ x4.toInt → x4.toInt ≤ (L : Int) → GBs x x4.toInt → f_type_33 n x x3 x4 I A = some o → (GBs x (L : Int) ∧ f_type_90 mFuel x x3 0 I A = some o) ∨ (¬ GBs x (L : Int) ∧ o.1.toInt = 0 ∧ o.2 = (I, A)) := by
  intro n
  induction n with
  | zero => intro x4 _ _ _ hf; cases hf
  | succ n ih =>
    intro x4 h40 h41 hs hf
    have hf : f_type_33s (f_type_33 n) x x3 x4 I A = some o := hf
    unfold f_type_33s at hf
    rcases m_ifE hf with ⟨c1, hf⟩ | ⟨c1, hf⟩
    · replace c1 := ti_leP (a := x3) (b := x4) c1 rfl rfl
      rw [show x4.toInt = (L : Int) by omega] at hs
      exact Or.inl ⟨hs, hf⟩
    · replace c1 := ti_leN (a := x3) (b := x4) c1 rfl rfl
      obtain ⟨v1, e1, hf⟩ := m_bndE hf
      obtain ⟨v2, e2, hf⟩ := m_bndE hf
      obtain ⟨v3, e3, hf⟩ := m_bndE hf
      have q3 : v3 = tyR x x4 := by
        unfold tyR
        rw [e3, e2, e1]
      obtain ⟨-, -, b1, b2, b3⟩ := ty_b (x := x) (x4 := x4)
      rw [q3] at hf
      have go : GBy x x4 → f_type_81 (f_type_33 n) x x3 x4 I A = some o → (GBs x (L : Int) ∧ f_type_90 mFuel x x3 0 I A = some o) ∨ (¬ GBs x (L : Int) ∧ o.1.toInt = 0 ∧ o.2 = (I, A)) := fun hg hf => by
        unfold f_type_81 at hf
        obtain ⟨v1, e1, hf⟩ := m_bndE hf
        have t1 : v1.toInt = x4.toInt + 1 := ti_add e1 rfl (show (1 : Int32).toInt = 1 from rfl) (by omega) (by omega)
        refine ih v1 (by omega) (by omega) (fun y y0 y1 => ?_) hf
        by_cases e : y.toInt = x4.toInt
        · have ey : y = x4 := (i32_of e).trans (i32_of rfl).symm
          rw [ey]; exact hg
        · exact hs y y0 (by omega)
      have no : ¬ GBy x x4 → f_type_79 I A = some o → (GBs x (L : Int) ∧ f_type_90 mFuel x x3 0 I A = some o) ∨ (¬ GBs x (L : Int) ∧ o.1.toInt = 0 ∧ o.2 = (I, A)) := fun hg hf => by
        unfold f_type_79 at hf
        obtain ⟨-, hf⟩ := m_chkE hf
        cases hf
        exact Or.inr ⟨fun h => hg (h x4 h40 (by omega)), rfl, rfl⟩
      obtain ⟨v4, e4, hf⟩ := m_bndE hf
      rcases m_ifE hf with ⟨c2, hf⟩ | ⟨c2, hf⟩
      · rw [e4] at c2
        exact go (Or.inl (b1.1 c2)) hf
      · rw [e4] at c2
        have d2 : (tyB x x4).toInt ≠ 10 := fun h => c2 (b1.2 h)
        obtain ⟨v5, e5, hf⟩ := m_bndE hf
        rcases m_ifE hf with ⟨c3, hf⟩ | ⟨c3, hf⟩
        · rw [e5] at c3
          have d3 := b2.1 c3
          exact no (fun h => by unfold GBy at h; omega) hf
        · rw [e5] at c3
          have d3 : ¬ (tyB x x4).toInt < 32 := fun h => c3 (b2.2 h)
          obtain ⟨v6, e6, hf⟩ := m_bndE hf
          rcases m_ifE hf with ⟨c4, hf⟩ | ⟨c4, hf⟩
          · rw [e6] at c4
            have d4 := b3.1 c4
            exact go (Or.inr ⟨by omega, by omega⟩) hf
          · rw [e6] at c4
            have d4 : ¬ (tyB x x4).toInt ≤ 126 := fun h => c4 (b3.2 h)
            exact no (fun h => by unfold GBy at h; omega) hf
/-- the reference's type -/
theorem v_type (ht : TXl I A w) (hw : w.length ≤ 2000) (hf : f_type x x3 I A = some o) : (TYo x x3.toInt (w.length : Int) ∧ o.1.toInt = 1 ∧ TXl o.2.1 o.2.2 (w ++ bys x x3.toInt.toNat)) ∨ (¬ TYo x x3.toInt (w.length : Int) ∧ o.1.toInt = 0 ∧ TXl o.2.1 o.2.2 w) := by
  have hf : f_type_0 x x3 I A = some o := hf
  unfold f_type_0 at hf
  obtain ⟨I1, e1, hf⟩ := m_bndE hf
  have j1 : I1 1 = I 1 := by rw [e1, upd_ne (by decide)]
  have t1 : TXl I1 A w := ⟨by rw [j1]; exact ht.1, fun i => by rw [← ht.2 i]; unfold txR; rw [j1]⟩
  have l1 := t1.1
  have no : ¬ TYo x x3.toInt (w.length : Int) → f_type_28 I1 A = some o → (TYo x x3.toInt (w.length : Int) ∧ o.1.toInt = 1 ∧ TXl o.2.1 o.2.2 (w ++ bys x x3.toInt.toNat)) ∨ (¬ TYo x x3.toInt (w.length : Int) ∧ o.1.toInt = 0 ∧ TXl o.2.1 o.2.2 w) := fun hn hf => by
    unfold f_type_28 at hf
    obtain ⟨-, hf⟩ := m_chkE hf
    cases hf
    exact Or.inr ⟨hn, rfl, t1⟩
  rcases m_ifE hf with ⟨c1, hf⟩ | ⟨c1, hf⟩
  · replace c1 := ti_ltP (a := x3) (b := (1 : Int32)) c1 rfl (show (1 : Int32).toInt = 1 from rfl)
    exact no (fun h => by have := h.1; omega) hf
  · replace c1 := ti_ltN (a := x3) (b := (1 : Int32)) c1 rfl (show (1 : Int32).toInt = 1 from rfl)
    rcases m_ifE hf with ⟨c2, hf⟩ | ⟨c2, hf⟩
    · replace c2 := ti_ltP (a := (8 : Int32)) (b := x3) c2 (show (8 : Int32).toInt = 8 from rfl) rfl
      exact no (fun h => by have := h.1; omega) hf
    · replace c2 := ti_ltN (a := (8 : Int32)) (b := x3) c2 (show (8 : Int32).toInt = 8 from rfl) rfl
      obtain ⟨v2, e2, hf⟩ := m_bndE hf
      have t2 : v2.toInt = (I1 1).toInt + x3.toInt := ti_add e2 rfl rfl (by omega) (by omega)
      rcases m_ifE hf with ⟨c3, hf⟩ | ⟨c3, hf⟩
      · replace c3 := ti_leP (a := v2) (b := (2000 : Int32)) c3 rfl (show (2000 : Int32).toInt = 2000 from rfl)
        have h3 : x3.toInt = ((x3.toInt.toNat : Nat) : Int) := by omega
        rcases tr_33 h3 (by omega) mFuel 0 (by decide) (show (0 : Int) ≤ _ by omega) (fun y y0 y1 => by have z : (0 : Int32).toInt = 0 := rfl; omega) hf with ⟨a1, a2⟩ | ⟨a1, a2, a3⟩
        · obtain ⟨b1, b2⟩ := tr_90 (w := w) h3 (by omega) (by omega) mFuel 0 0 I1 A rfl (Nat.zero_le _) (by rw [show bys x 0 = [] from rfl, List.append_nil]; exact t1) a2
          exact Or.inl ⟨⟨⟨by omega, by omega⟩, by omega, by rw [h3]; exact a1⟩, b1, b2⟩
        · refine Or.inr ⟨fun h => a1 (by rw [← h3]; exact h.2.2), a2, ?_⟩
          rw [a3]; exact t1
      · replace c3 := ti_leN (a := v2) (b := (2000 : Int32)) c3 rfl (show (2000 : Int32).toInt = 2000 from rfl)
        exact no (fun h => by have := h.2.1; omega) hf
end TYR
