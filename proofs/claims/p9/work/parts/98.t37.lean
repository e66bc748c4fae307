/-- the name of the reference's tag k of game g -/
def NMr (A : Nat → Nat → Int32) (g k : Int) (u : List Int) : Prop := (A 19 (8 * g + k).toNat).toInt = (u.length : Int) ∧ u.length ≤ 12 ∧ ∀ i : Int, 0 ≤ i → i < (u.length : Int) → (A 20 (96 * g + 12 * k + i).toNat).toInt = wA u i
section TGN
variable {I : Nat → Int32} {A : Nat → Nat → Int32} {g k : Int} {u : List Int} {o : Int32 × MS} {x1 x2 x3 x4 : Int32}
theorem nmr_at {x v : Int32} {i : Int} (h : NMr A g k u) (e : v = A 20 (x).toNatClampNeg) (hx : x.toInt = 96 * g + 12 * k + i) (h0 : 0 ≤ i) (h1 : i < (u.length : Int)) : v.toInt = wA u i := by
  rw [e, ← h.2.2 i h0 h1, ← hx]
  rfl
theorem nmr_sz {x v : Int32} (h : NMr A g k u) (e : v = A 19 (x).toNatClampNeg) (hx : x.toInt = 8 * g + k) : v.toInt = (u.length : Int) := by
  rw [e, ← h.1, ← hx]
  rfl
theorem it_38 {s : List Int} (h : NMr A g k u) (hg : g = 0 ∨ g = 1) (hk : 0 ≤ k ∧ k ≤ 7) (h1 : x1.toInt = k) (h2 : x2.toInt = g) (h3 : (x3.toInt = 0 ∧ s = strL 0) ∨ (x3.toInt = 1 ∧ s = strL 10)) (h4 : x4.toInt = (s.length : Int)) : ∀ (n : Nat) (x5 x6 : Int32), (x5.toInt = 0 ∨ x5.toInt = 1) → (0 ≤ x6.toInt ∧ x6.toInt ≤ (s.length : Int)) → (x5.toInt = 1 ↔ u.length = s.length ∧ ∀ i : Int, 0 ≤ i → i < x6.toInt → wA u i = wA s i) → f_isTag_38 n x1 x2 x3 x4 x5 x6 I A = some o → (o.1.toInt = 0 ∨ o.1.toInt = 1) ∧ (o.1.toInt = 1 ↔ u = s) := by
  intro n
  induction n with
  | zero => intro x5 x6 _ _ _ hf; cases hf
  | succ n ih =>
    intro x5 x6 h5 h6 hi hf
    have hf : f_isTag_38s (f_isTag_38 n) x1 x2 x3 x4 x5 x6 I A = some o := hf
    have l0 : ((strL 0).length : Int) = 3 := rfl
    have l10 : ((strL 10).length : Int) = 6 := rfl
    have z0 : (0 : Int32).toInt = 0 := rfl
    have z1 : (1 : Int32).toInt = 1 := rfl
    have ls : (s.length : Int) ≤ 6 := by rcases h3 with ⟨-, e⟩ | ⟨-, e⟩ <;> rw [e] <;> decide
    have s3 : (x3.toInt = 0 → s = strL 0) ∧ (x3.toInt ≠ 0 → s = strL 10) := ⟨fun e => by rcases h3 with ⟨-, g⟩ | ⟨g, -⟩; exact g; omega, fun e => by rcases h3 with ⟨g, -⟩ | ⟨-, g⟩; omega; exact g⟩
    have c0 : wA (strL 0) 0 = 70 := by decide
    have c1' : wA (strL 0) 1 = 69 := by decide
    have c2' : wA (strL 0) 2 = 78 := by decide
    have d0 : wA (strL 10) 0 = 82 := by decide
    have d1 : wA (strL 10) 1 = 101 := by decide
    have d2 : wA (strL 10) 2 = 115 := by decide
    have d3 : wA (strL 10) 3 = 117 := by decide
    have d4 : wA (strL 10) 4 = 108 := by decide
    have d5 : wA (strL 10) 5 = 116 := by decide
    have go : ∀ t0 : Int32, x5.toInt = 1 → x6.toInt < (s.length : Int) → t0.toInt = wA s x6.toInt → f_isTag_136 (f_isTag_38 n) x1 x2 x3 x4 x6 t0 I A = some o → (o.1.toInt = 0 ∨ o.1.toInt = 1) ∧ (o.1.toInt = 1 ↔ u = s) := by
      intro t0 hx hlt ht hf
      obtain ⟨hl, hs⟩ := hi.1 hx
      have fin : ∀ t1 : Int32, (t1.toInt = 0 ∨ t1.toInt = 1) → (t1.toInt = 1 ↔ wA u x6.toInt = wA s x6.toInt) → f_isTag_165 (f_isTag_38 n) x1 x2 x3 x4 x6 t1 I A = some o → (o.1.toInt = 0 ∨ o.1.toInt = 1) ∧ (o.1.toInt = 1 ↔ u = s) := by
        intro t1 hb ht1 hf
        unfold f_isTag_165 at hf
        obtain ⟨v1, e1, hf⟩ := m_bndE hf
        have t1' : v1.toInt = x6.toInt + 1 := ti_add e1 rfl (show (1 : Int32).toInt = 1 from rfl) (by omega) (by omega)
        refine ih t1 v1 hb (by omega) ?_ hf
        rw [ht1]
        constructor
        · intro e
          refine ⟨hl, fun i i0 i1 => ?_⟩
          by_cases ei : i = x6.toInt
          · rw [ei]; exact e
          · exact hs i i0 (by omega)
        · intro e
          exact e.2 x6.toInt h6.1 (by omega)
      unfold f_isTag_136 at hf
      obtain ⟨v1, e_v1, hf⟩ := m_bndE hf
      have t_v1 : v1.toInt = 96 * x2.toInt := ti_mul e_v1 (show (96 : Int32).toInt = 96 from rfl) rfl (by omega) (by omega)
      obtain ⟨v2, e_v2, hf⟩ := m_bndE hf
      have t_v2 : v2.toInt = 12 * x1.toInt := ti_mul e_v2 (show (12 : Int32).toInt = 12 from rfl) rfl (by omega) (by omega)
      obtain ⟨v3, e_v3, hf⟩ := m_bndE hf
      have t_v3 : v3.toInt = v1.toInt + v2.toInt := ti_add e_v3 rfl rfl (by omega) (by omega)
      obtain ⟨v4, e_v4, hf⟩ := m_bndE hf
      have t_v4 : v4.toInt = v3.toInt + x6.toInt := ti_add e_v4 rfl rfl (by omega) (by omega)
      obtain ⟨-, hf⟩ := m_chkE hf
      obtain ⟨v5, e_v5, hf⟩ := m_bndE hf
      have q5 := nmr_at (i := x6.toInt) h e_v5 (by omega) h6.1 (by omega)
      rcases m_ifE hf with ⟨c1, hf⟩ | ⟨c1, hf⟩
      · skip
        replace c1 := ti_eqP (a := v5) (b := t0) c1 rfl rfl
        exact fin 1 (Or.inr rfl) ⟨fun _ => by omega, fun _ => rfl⟩ hf
      · skip
        replace c1 := ti_eqN (a := v5) (b := t0) c1 rfl rfl
        exact fin 0 (Or.inl rfl) ⟨fun e => absurd e (by decide), fun e => by omega⟩ hf
    unfold f_isTag_38s at hf
    rcases m_ifE hf with ⟨c1, hf⟩ | ⟨c1, hf⟩
    · skip
      replace c1 := ti_leP (a := x4) (b := x6) c1 rfl rfl
      unfold f_isTag_173 at hf
      obtain ⟨-, hf⟩ := m_chkE hf
      cases hf
      try dsimp only
      refine ⟨h5, ?_⟩
      rw [hi]
      constructor
      · rintro ⟨a, b⟩
        exact wA_ext a (fun i i0 i1 => b i i0 (by omega))
      · intro e
        rw [e]
        exact ⟨rfl, fun _ _ _ => rfl⟩
    · skip
      replace c1 := ti_leN (a := x4) (b := x6) c1 rfl rfl
      rcases m_ifE hf with ⟨c2, hf⟩ | ⟨c2, hf⟩
      · skip
        replace c2 := ti_eqP (a := x5) (b := (0 : Int32)) c2 rfl (show (0 : Int32).toInt = 0 from rfl)
        unfold f_isTag_173 at hf
        obtain ⟨-, hf⟩ := m_chkE hf
        cases hf
        try dsimp only
        refine ⟨h5, fun e => by omega, fun e => ?_⟩
        exact hi.2 ⟨by rw [e], fun _ _ _ => by rw [e]⟩
      · skip
        replace c2 := ti_eqN (a := x5) (b := (0 : Int32)) c2 rfl (show (0 : Int32).toInt = 0 from rfl)
        rcases m_ifE hf with ⟨c3, hf⟩ | ⟨c3, hf⟩
        · skip
          replace c3 := ti_eqP (a := x3) (b := (0 : Int32)) c3 rfl (show (0 : Int32).toInt = 0 from rfl)
          rcases m_ifE hf with ⟨c4, hf⟩ | ⟨c4, hf⟩
          · skip
            replace c4 := ti_eqP (a := x6) (b := (0 : Int32)) c4 rfl (show (0 : Int32).toInt = 0 from rfl)
            have es := s3.1 c3
            exact go 70 (by omega) (by omega) (by rw [es, show x6.toInt = 0 by omega]; exact c0.symm) hf
          · skip
            replace c4 := ti_eqN (a := x6) (b := (0 : Int32)) c4 rfl (show (0 : Int32).toInt = 0 from rfl)
            rcases m_ifE hf with ⟨c5, hf⟩ | ⟨c5, hf⟩
            · skip
              replace c5 := ti_eqP (a := x6) (b := (1 : Int32)) c5 rfl (show (1 : Int32).toInt = 1 from rfl)
              have es := s3.1 c3
              exact go 69 (by omega) (by omega) (by rw [es, show x6.toInt = 1 by omega]; exact c1'.symm) hf
            · skip
              replace c5 := ti_eqN (a := x6) (b := (1 : Int32)) c5 rfl (show (1 : Int32).toInt = 1 from rfl)
              have es := s3.1 c3
              rw [es, l0] at h4
              exact go 78 (by omega) (by rw [es, l0]; omega) (by rw [es, show x6.toInt = 2 by omega]; exact c2'.symm) hf
        · skip
          replace c3 := ti_eqN (a := x3) (b := (0 : Int32)) c3 rfl (show (0 : Int32).toInt = 0 from rfl)
          rcases m_ifE hf with ⟨c6, hf⟩ | ⟨c6, hf⟩
          · skip
            replace c6 := ti_eqP (a := x6) (b := (0 : Int32)) c6 rfl (show (0 : Int32).toInt = 0 from rfl)
            have es := s3.2 c3
            exact go 82 (by omega) (by omega) (by rw [es, show x6.toInt = 0 by omega]; exact d0.symm) hf
          · skip
            replace c6 := ti_eqN (a := x6) (b := (0 : Int32)) c6 rfl (show (0 : Int32).toInt = 0 from rfl)
            rcases m_ifE hf with ⟨c7, hf⟩ | ⟨c7, hf⟩
            · skip
              replace c7 := ti_eqP (a := x6) (b := (1 : Int32)) c7 rfl (show (1 : Int32).toInt = 1 from rfl)
              have es := s3.2 c3
              exact go 101 (by omega) (by omega) (by rw [es, show x6.toInt = 1 by omega]; exact d1.symm) hf
            · skip
              replace c7 := ti_eqN (a := x6) (b := (1 : Int32)) c7 rfl (show (1 : Int32).toInt = 1 from rfl)
              rcases m_ifE hf with ⟨c8, hf⟩ | ⟨c8, hf⟩
              · skip
                replace c8 := ti_eqP (a := x6) (b := (2 : Int32)) c8 rfl (show (2 : Int32).toInt = 2 from rfl)
                have es := s3.2 c3
                exact go 115 (by omega) (by omega) (by rw [es, show x6.toInt = 2 by omega]; exact d2.symm) hf
              · skip
                replace c8 := ti_eqN (a := x6) (b := (2 : Int32)) c8 rfl (show (2 : Int32).toInt = 2 from rfl)
                rcases m_ifE hf with ⟨c9, hf⟩ | ⟨c9, hf⟩
                · skip
                  replace c9 := ti_eqP (a := x6) (b := (3 : Int32)) c9 rfl (show (3 : Int32).toInt = 3 from rfl)
                  have es := s3.2 c3
                  exact go 117 (by omega) (by omega) (by rw [es, show x6.toInt = 3 by omega]; exact d3.symm) hf
                · skip
                  replace c9 := ti_eqN (a := x6) (b := (3 : Int32)) c9 rfl (show (3 : Int32).toInt = 3 from rfl)
                  rcases m_ifE hf with ⟨c10, hf⟩ | ⟨c10, hf⟩
                  · skip
                    replace c10 := ti_eqP (a := x6) (b := (4 : Int32)) c10 rfl (show (4 : Int32).toInt = 4 from rfl)
                    have es := s3.2 c3
                    exact go 108 (by omega) (by omega) (by rw [es, show x6.toInt = 4 by omega]; exact d4.symm) hf
                  · skip
                    replace c10 := ti_eqN (a := x6) (b := (4 : Int32)) c10 rfl (show (4 : Int32).toInt = 4 from rfl)
                    have es := s3.2 c3
                    rw [es, l10] at h4
                    exact go 116 (by omega) (by rw [es, l10]; omega) (by rw [es, show x6.toInt = 5 by omega]; exact d5.symm) hf
theorem v_isTag {s : List Int} (h : NMr A g k u) (hg : g = 0 ∨ g = 1) (hk : 0 ≤ k ∧ k ≤ 7) (h1 : x1.toInt = k) (h2 : x2.toInt = g) (h3 : (x3.toInt = 0 ∧ s = strL 0) ∨ (x3.toInt = 1 ∧ s = strL 10)) (hf : f_isTag x1 x2 x3 I A = some o) : (o.1.toInt = 0 ∨ o.1.toInt = 1) ∧ (o.1.toInt = 1 ↔ u = s) := by
  have hf : f_isTag_0 x1 x2 x3 I A = some o := hf
  have l0 : ((strL 0).length : Int) = 3 := rfl
  have l10 : ((strL 10).length : Int) = 6 := rfl
  have z0 : (0 : Int32).toInt = 0 := rfl
  have mid : ∀ t0 : Int32, t0.toInt = (s.length : Int) → f_isTag_10 x1 x2 x3 t0 I A = some o → (o.1.toInt = 0 ∨ o.1.toInt = 1) ∧ (o.1.toInt = 1 ↔ u = s) := by
    intro t0 ht hf
    unfold f_isTag_10 at hf
    obtain ⟨v1, e_v1, hf⟩ := m_bndE hf
    have t_v1 : v1.toInt = 8 * x2.toInt := ti_mul e_v1 (show (8 : Int32).toInt = 8 from rfl) rfl (by omega) (by omega)
    obtain ⟨v2, e_v2, hf⟩ := m_bndE hf
    have t_v2 : v2.toInt = v1.toInt + x1.toInt := ti_add e_v2 rfl rfl (by omega) (by omega)
    obtain ⟨-, hf⟩ := m_chkE hf
    obtain ⟨v3, e_v3, hf⟩ := m_bndE hf
    have q3 := nmr_sz h e_v3 (by omega)
    rcases m_ifE hf with ⟨c1, hf⟩ | ⟨c1, hf⟩
    · skip
      replace c1 := ti_eqP (a := v3) (b := t0) c1 rfl rfl
      exact it_38 h hg hk h1 h2 h3 ht mFuel 1 0 (Or.inr rfl) (by omega) ⟨fun _ => ⟨by omega, fun i i0 i1 => by omega⟩, fun _ => rfl⟩ hf
    · skip
      replace c1 := ti_eqN (a := v3) (b := t0) c1 rfl rfl
      exact it_38 h hg hk h1 h2 h3 ht mFuel 0 0 (Or.inl rfl) (by omega) ⟨fun e => absurd e (by decide), fun e => by have := e.1; omega⟩ hf
  unfold f_isTag_0 at hf
  rcases m_ifE hf with ⟨c1, hf⟩ | ⟨c1, hf⟩
  · replace c1 := ti_eqP (a := x3) (b := (0 : Int32)) c1 rfl rfl
    refine mid 3 ?_ hf
    rcases h3 with ⟨-, e⟩ | ⟨e, -⟩
    · rw [e]; rfl
    · omega
  · replace c1 := ti_eqN (a := x3) (b := (0 : Int32)) c1 rfl rfl
    refine mid 6 ?_ hf
    rcases h3 with ⟨e, -⟩ | ⟨-, e⟩
    · omega
    · rw [e]; rfl
theorem nt_47 {self5 : Int32 → Int32 → Int32 → Int32 → (Nat → Int32) → (Nat → Nat → Int32) → Option (Int32 × MS)} {P : Prop} {s : List Int} {i0 : Int} (h : NMr A g k u) (hs : NMr A g i0 s) (hg : g = 0 ∨ g = 1) (hk : 0 ≤ k ∧ k ≤ 7) (hi : 0 ≤ i0 ∧ i0 < k) (h1 : x1.toInt = g) (h2 : x2.toInt = k) (h4 : x4.toInt = i0) (hend : ∀ x5 : Int32, (x5.toInt = 0 ∨ x5.toInt = 1) → (x5.toInt = 1 ↔ s = u) → f_isNameThere_119 self5 x1 x2 x3 x4 x5 I A = some o → P) : ∀ (n : Nat) (x5 x6 : Int32), (x5.toInt = 0 ∨ x5.toInt = 1) → (0 ≤ x6.toInt ∧ x6.toInt ≤ (u.length : Int)) → (x5.toInt = 1 ↔ s.length = u.length ∧ ∀ i : Int, 0 ≤ i → i < x6.toInt → wA s i = wA u i) → f_isNameThere_47 self5 n x1 x2 x3 x4 x5 x6 I A = some o → P := by
  intro n
  induction n with
  | zero => intro x5 x6 _ _ _ hf; cases hf
  | succ n ih =>
    intro x5 x6 h5 h6 hv hf
    have hf : f_isNameThere_47s self5 (f_isNameThere_47 self5 n) x1 x2 x3 x4 x5 x6 I A = some o := hf
    have hl := h.2.1
    have nxt : ∀ t0 : Int32, (t0.toInt = 0 ∨ t0.toInt = 1) → x5.toInt = 1 → x6.toInt < (u.length : Int) → (t0.toInt = 1 ↔ wA s x6.toInt = wA u x6.toInt) → f_isNameThere_111 self5 (f_isNameThere_47 self5 n) x1 x2 x3 x4 x6 t0 I A = some o → P := by
      intro t0 hb hx hlt ht hf
      obtain ⟨el, es⟩ := hv.1 hx
      unfold f_isNameThere_111 at hf
      obtain ⟨v1, e1, hf⟩ := m_bndE hf
      have t1' : v1.toInt = x6.toInt + 1 := ti_add e1 rfl (show (1 : Int32).toInt = 1 from rfl) (by omega) (by omega)
      refine ih t0 v1 hb (by omega) ?_ hf
      rw [ht]
      constructor
      · intro e
        refine ⟨el, fun i j0 j1 => ?_⟩
        by_cases ei : i = x6.toInt
        · rw [ei]; exact e
        · exact es i j0 (by omega)
      · intro e
        exact e.2 x6.toInt h6.1 (by omega)
    unfold f_isNameThere_47s at hf
    obtain ⟨v1, e_v1, hf⟩ := m_bndE hf
    have t_v1 : v1.toInt = 8 * x1.toInt := ti_mul e_v1 (show (8 : Int32).toInt = 8 from rfl) rfl (by omega) (by omega)
    obtain ⟨v2, e_v2, hf⟩ := m_bndE hf
    have t_v2 : v2.toInt = v1.toInt + x2.toInt := ti_add e_v2 rfl rfl (by omega) (by omega)
    obtain ⟨-, hf⟩ := m_chkE hf
    obtain ⟨v3, e_v3, hf⟩ := m_bndE hf
    have q3 := nmr_sz h e_v3 (by omega)
    rcases m_ifE hf with ⟨c1, hf⟩ | ⟨c1, hf⟩
    · skip
      replace c1 := ti_leP (a := v3) (b := x6) c1 rfl rfl
      refine hend x5 h5 ?_ hf
      rw [hv]
      constructor
      · rintro ⟨a, b⟩
        exact wA_ext a (fun i j0 j1 => b i j0 (by omega))
      · intro e
        rw [e]
        exact ⟨rfl, fun _ _ _ => rfl⟩
    · skip
      replace c1 := ti_leN (a := v3) (b := x6) c1 rfl rfl
      rcases m_ifE hf with ⟨c2, hf⟩ | ⟨c2, hf⟩
      · skip
        replace c2 := ti_eqP (a := x5) (b := (0 : Int32)) c2 rfl (show (0 : Int32).toInt = 0 from rfl)
        refine hend x5 h5 ⟨fun e => by omega, fun e => hv.2 ⟨by rw [e], fun _ _ _ => by rw [e]⟩⟩ hf
      · skip
        replace c2 := ti_eqN (a := x5) (b := (0 : Int32)) c2 rfl (show (0 : Int32).toInt = 0 from rfl)
        obtain ⟨el, es⟩ := hv.1 (by omega)
        obtain ⟨v4, e_v4, hf⟩ := m_bndE hf
        have t_v4 : v4.toInt = 96 * x1.toInt := ti_mul e_v4 (show (96 : Int32).toInt = 96 from rfl) rfl (by omega) (by omega)
        obtain ⟨v5, e_v5, hf⟩ := m_bndE hf
        have t_v5 : v5.toInt = 12 * x4.toInt := ti_mul e_v5 (show (12 : Int32).toInt = 12 from rfl) rfl (by omega) (by omega)
        obtain ⟨v6, e_v6, hf⟩ := m_bndE hf
        have t_v6 : v6.toInt = v4.toInt + v5.toInt := ti_add e_v6 rfl rfl (by omega) (by omega)
        obtain ⟨v7, e_v7, hf⟩ := m_bndE hf
        have t_v7 : v7.toInt = v6.toInt + x6.toInt := ti_add e_v7 rfl rfl (by omega) (by omega)
        obtain ⟨-, hf⟩ := m_chkE hf
        obtain ⟨v8, e_v8, hf⟩ := m_bndE hf
        have q8 := nmr_at (i := x6.toInt) hs e_v8 (by omega) h6.1 (by omega)
        obtain ⟨v9, e_v9, hf⟩ := m_bndE hf
        have t_v9 : v9.toInt = 96 * x1.toInt := ti_mul e_v9 (show (96 : Int32).toInt = 96 from rfl) rfl (by omega) (by omega)
        obtain ⟨v10, e_v10, hf⟩ := m_bndE hf
        have t_v10 : v10.toInt = 12 * x2.toInt := ti_mul e_v10 (show (12 : Int32).toInt = 12 from rfl) rfl (by omega) (by omega)
        obtain ⟨v11, e_v11, hf⟩ := m_bndE hf
        have t_v11 : v11.toInt = v9.toInt + v10.toInt := ti_add e_v11 rfl rfl (by omega) (by omega)
        obtain ⟨v12, e_v12, hf⟩ := m_bndE hf
        have t_v12 : v12.toInt = v11.toInt + x6.toInt := ti_add e_v12 rfl rfl (by omega) (by omega)
        obtain ⟨-, hf⟩ := m_chkE hf
        obtain ⟨v13, e_v13, hf⟩ := m_bndE hf
        have q13 := nmr_at (i := x6.toInt) h e_v13 (by omega) h6.1 (by omega)
        rcases m_ifE hf with ⟨c3, hf⟩ | ⟨c3, hf⟩
        · skip
          replace c3 := ti_eqP (a := v8) (b := v13) c3 rfl rfl
          exact nxt 1 (Or.inr rfl) (by omega) (by omega) ⟨fun _ => by omega, fun _ => rfl⟩ hf
        · skip
          replace c3 := ti_eqN (a := v8) (b := v13) c3 rfl rfl
          exact nxt 0 (Or.inl rfl) (by omega) (by omega) ⟨fun e => absurd e (by decide), fun e => by omega⟩ hf
theorem nt_5 {nf : Int → List Int} (h : NMr A g k u) (hn : ∀ i, 0 ≤ i → i < k → NMr A g i (nf i)) (hg : g = 0 ∨ g = 1) (hk : 0 ≤ k ∧ k ≤ 7) (h1 : x1.toInt = g) (h2 : x2.toInt = k) : ∀ (n : Nat) (x3 x4 : Int32), (x3.toInt = 0 ∨ x3.toInt = 1) → (0 ≤ x4.toInt ∧ x4.toInt ≤ k) → (x3.toInt = 1 ↔ ∃ i, 0 ≤ i ∧ i < x4.toInt ∧ nf i = u) → f_isNameThere_5 n x1 x2 x3 x4 I A = some o → (o.1.toInt = 0 ∨ o.1.toInt = 1) ∧ (o.1.toInt = 1 ↔ ∃ i, 0 ≤ i ∧ i < k ∧ nf i = u) := by
  intro n
  induction n with
  | zero => intro x3 x4 _ _ _ hf; cases hf
  | succ n ih =>
    intro x3 x4 h3 h4 hv hf
    have hf : f_isNameThere_5s (f_isNameThere_5 n) x1 x2 x3 x4 I A = some o := hf
    have z0 : (0 : Int32).toInt = 0 := rfl
    have stp' : ∀ t0 : Int32, x4.toInt < k → (t0.toInt = 0 ∨ t0.toInt = 1) → (t0.toInt = 1 ↔ x3.toInt = 1 ∨ nf x4.toInt = u) → f_isNameThere_133 (f_isNameThere_5 n) x1 x2 x4 t0 I A = some o → (o.1.toInt = 0 ∨ o.1.toInt = 1) ∧ (o.1.toInt = 1 ↔ ∃ i, 0 ≤ i ∧ i < k ∧ nf i = u) := by
      intro t0 hlt hb ht hf
      unfold f_isNameThere_133 at hf
      obtain ⟨v1, e1, hf⟩ := m_bndE hf
      have t1' : v1.toInt = x4.toInt + 1 := ti_add e1 rfl (show (1 : Int32).toInt = 1 from rfl) (by omega) (by omega)
      refine ih t0 v1 hb (by omega) ?_ hf
      rw [ht, hv]
      constructor
      · rintro (⟨i, a, b, c⟩ | e)
        · exact ⟨i, a, by omega, c⟩
        · exact ⟨x4.toInt, h4.1, by omega, e⟩
      · rintro ⟨i, a, b, c⟩
        by_cases e : i = x4.toInt
        · right; rw [← e]; exact c
        · exact Or.inl ⟨i, a, by omega, c⟩
    have hend : x4.toInt < k → ∀ x5 : Int32, (x5.toInt = 0 ∨ x5.toInt = 1) → (x5.toInt = 1 ↔ nf x4.toInt = u) → f_isNameThere_119 (f_isNameThere_5 n) x1 x2 x3 x4 x5 I A = some o → (o.1.toInt = 0 ∨ o.1.toInt = 1) ∧ (o.1.toInt = 1 ↔ ∃ i, 0 ≤ i ∧ i < k ∧ nf i = u) := by
      intro hlt x5 h5 hx5 hf
      unfold f_isNameThere_119 at hf
      rcases m_ifE hf with ⟨c1, hf⟩ | ⟨c1, hf⟩
      · replace c1 := ti_eqP (a := x3) (b := (0 : Int32)) c1 rfl rfl
        rcases m_ifE hf with ⟨c2, hf⟩ | ⟨c2, hf⟩
        · replace c2 := ti_eqP (a := x5) (b := (0 : Int32)) c2 rfl rfl
          refine stp' 0 hlt (Or.inl rfl) ⟨fun e => absurd e (by decide), fun e => ?_⟩ hf
          rcases e with e | e
          · clear hv; omega
          · have := hx5.2 e; clear hv; omega
        · replace c2 := ti_eqN (a := x5) (b := (0 : Int32)) c2 rfl rfl
          exact stp' 1 hlt (Or.inr rfl) ⟨fun _ => Or.inr (hx5.1 (by clear hv; omega)), fun _ => rfl⟩ hf
      · replace c1 := ti_eqN (a := x3) (b := (0 : Int32)) c1 rfl rfl
        exact stp' 1 hlt (Or.inr rfl) ⟨fun _ => Or.inl (by clear hv; omega), fun _ => rfl⟩ hf
    unfold f_isNameThere_5s at hf
    rcases m_ifE hf with ⟨c1, hf⟩ | ⟨c1, hf⟩
    · replace c1 := ti_leP (a := x2) (b := x4) c1 rfl rfl
      obtain ⟨-, hf⟩ := m_chkE hf
      cases hf
      have e : x4.toInt = k := by clear hv; omega
      rw [e] at hv
      exact ⟨h3, hv⟩
    · replace c1 := ti_leN (a := x2) (b := x4) c1 rfl rfl
      have hlt : x4.toInt < k := by clear hv; omega
      have hs := hn x4.toInt h4.1 hlt
      obtain ⟨v1, e1, hf⟩ := m_bndE hf
      obtain ⟨v2, e2, hf⟩ := m_bndE hf
      obtain ⟨-, hf⟩ := m_chkE hf
      obtain ⟨v3, e3, hf⟩ := m_bndE hf
      obtain ⟨v4, e4, hf⟩ := m_bndE hf
      obtain ⟨v5, e5, hf⟩ := m_bndE hf
      obtain ⟨-, hf⟩ := m_chkE hf
      obtain ⟨v6, e6, hf⟩ := m_bndE hf
      have he := hend hlt
      clear hv
      have t1 : v1.toInt = 8 * x1.toInt := ti_mul e1 (show (8 : Int32).toInt = 8 from rfl) rfl (by omega) (by omega)
      have t2 : v2.toInt = v1.toInt + x4.toInt := ti_add e2 rfl rfl (by omega) (by omega)
      have t4 : v4.toInt = 8 * x1.toInt := ti_mul e4 (show (8 : Int32).toInt = 8 from rfl) rfl (by omega) (by omega)
      have t5 : v5.toInt = v4.toInt + x2.toInt := ti_add e5 rfl rfl (by omega) (by omega)
      have q3 := nmr_sz hs e3 (by omega)
      have q6 := nmr_sz h e6 (by omega)
      rcases m_ifE hf with ⟨c2, hf⟩ | ⟨c2, hf⟩
      · replace c2 := ti_eqP (a := v3) (b := v6) c2 rfl rfl
        exact nt_47 h hs hg hk ⟨h4.1, hlt⟩ h1 h2 rfl he mFuel 1 0 (Or.inr rfl) (by omega) ⟨fun _ => ⟨by omega, fun i i0 i1 => by omega⟩, fun _ => rfl⟩ hf
      · replace c2 := ti_eqN (a := v3) (b := v6) c2 rfl rfl
        exact nt_47 h hs hg hk ⟨h4.1, hlt⟩ h1 h2 rfl he mFuel 0 0 (Or.inl rfl) (by omega) ⟨fun e => absurd e (by decide), fun e => by have := e.1; omega⟩ hf
theorem v_isNameThere {nf : Int → List Int} (h : NMr A g k u) (hn : ∀ i, 0 ≤ i → i < k → NMr A g i (nf i)) (hg : g = 0 ∨ g = 1) (hk : 0 ≤ k ∧ k ≤ 7) (h1 : x1.toInt = g) (h2 : x2.toInt = k) (hf : f_isNameThere x1 x2 I A = some o) : (o.1.toInt = 0 ∨ o.1.toInt = 1) ∧ (o.1.toInt = 1 ↔ ∃ i, 0 ≤ i ∧ i < k ∧ nf i = u) := nt_5 h hn hg hk h1 h2 mFuel 0 0 (Or.inl rfl) (show (0 : Int) ≤ (0 : Int32).toInt ∧ (0 : Int32).toInt ≤ k from ⟨by decide, hk.1⟩) ⟨fun e => absurd e (by decide), fun ⟨i, a, b, _⟩ => by have z : (0 : Int32).toInt = 0 := rfl; omega⟩ hf
end TGN
