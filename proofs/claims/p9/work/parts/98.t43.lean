section LIK
variable {S S' : ZS} {x0 x1 : Nat} {a b : List Int} {o : Int32 × ZS}
theorem lk_15 (ha : RWL S x0 a) (hb : RWL S x1 b) (hl : a.length = b.length) (h9 : (a.length : Int) ≤ 100000) : ∀ (n : Nat) (x2 : Int32), 0 ≤ x2.toInt → x2.toInt ≤ (a.length : Int) → (∀ i : Int, 0 ≤ i → i < x2.toInt → wA a i = wA b i) → f_X6_isLike_15 n x0 x1 x2 S = some o → (o.1.toInt = 0 ∨ o.1.toInt = 1) ∧ (o.1.toInt = 1 ↔ a = b) := by
  intro n
  induction n with
  | zero => intro x2 _ _ _ hf; cases hf
  | succ n ih =>
    intro x2 h0 h2 hs hf
    have hf : f_X6_isLike_15s (f_X6_isLike_15 n) x0 x1 x2 S = some o := hf
    have l1 := ha.1
    unfold f_X6_isLike_15s at hf
    obtain ⟨-, hf⟩ := m_chkE hf
    rcases m_ifE hf with ⟨c1, hf⟩ | ⟨c1, hf⟩
    · skip
      replace c1 := ti_leP (a := (zI S 1 x0)) (b := x2) c1 rfl rfl
      obtain ⟨-, hf⟩ := m_chkE hf
      cases hf
      try dsimp only
      exact ⟨Or.inr rfl, fun _ => wA_ext hl (fun i i0 i1 => hs i i0 (by omega)), fun _ => rfl⟩
    · skip
      replace c1 := ti_leN (a := (zI S 1 x0)) (b := x2) c1 rfl rfl
      obtain ⟨-, hf⟩ := m_chkE hf
      obtain ⟨b1, h_b1, hf⟩ := m_calE hf
      obtain ⟨-, hf⟩ := m_chkE hf
      obtain ⟨-, hf⟩ := m_chkE hf
      obtain ⟨v2, e_v2, hf⟩ := m_bndE hf
      have q2 : v2.toInt = wA a x2.toInt := by
        rw [← ha.2 x2.toInt]
        unfold rwC
        rw [if_pos ⟨h0, by omega⟩, h_b1, e_v2]
        rfl
      obtain ⟨-, hf⟩ := m_chkE hf
      obtain ⟨r3, h_r3, hf⟩ := m_calR hf (fun _ h => ro_X6_at h)
      dsimp only at hf
      have p_r3 := pc_X6_at h_r3
      dsimp only at p_r3
      rw [hb.2] at p_r3
      rcases m_ifE hf with ⟨c2, hf⟩ | ⟨c2, hf⟩
      · skip
        replace c2 := ti_eqP (a := v2) (b := r3) c2 rfl rfl
        obtain ⟨v4, e_v4, hf⟩ := m_bndE hf
        have t_v4 : v4.toInt = x2.toInt + 1 := ti_add e_v4 rfl (show (1 : Int32).toInt = 1 from rfl) (by omega) (by omega)
        refine ih v4 (by omega) (by omega) (fun i i0 i1 => ?_) hf
        by_cases e : i = x2.toInt
        · rw [e]; omega
        · exact hs i i0 (by omega)
      · skip
        replace c2 := ti_eqN (a := v2) (b := r3) c2 rfl rfl
        obtain ⟨-, hf⟩ := m_chkE hf
        cases hf
        try dsimp only
        refine ⟨Or.inl rfl, fun e => absurd e (by decide), fun e => ?_⟩
        rw [e] at q2
        omega
theorem p_isLike (ha : RWL S x0 a) (hb : RWL S x1 b) (h9 : (a.length : Int) ≤ 100000) (hf : f_X6_isLike x0 x1 S = some o) : (o.1.toInt = 0 ∨ o.1.toInt = 1) ∧ (o.1.toInt = 1 ↔ a = b) := by
  have hf : f_X6_isLike_0 x0 x1 S = some o := hf
  have l1 := ha.1
  have l2 := hb.1
  unfold f_X6_isLike_0 at hf
  obtain ⟨-, hf⟩ := m_chkE hf
  obtain ⟨-, hf⟩ := m_chkE hf
  rcases m_ifE hf with ⟨c1, hf⟩ | ⟨c1, hf⟩
  · skip
    replace c1 := ti_eqP (a := (zI S 1 x0)) (b := (zI S 1 x1)) c1 rfl rfl
    exact lk_15 ha hb (by omega) h9 mFuel 0 (by decide) (show (0 : Int) ≤ (a.length : Int) by omega) (fun i i0 i1 => by have z : (0 : Int32).toInt = 0 := rfl; omega) hf
  · skip
    replace c1 := ti_eqN (a := (zI S 1 x0)) (b := (zI S 1 x1)) c1 rfl rfl
    obtain ⟨-, hf⟩ := m_chkE hf
    cases hf
    try dsimp only
    refine ⟨Or.inl rfl, fun e => absurd e (by decide), fun e => ?_⟩
    rw [e] at l1
    omega
theorem ht_2 {gm nr : Nat} {u : List Int} {L : List (List Int × List Int)} (h : TGc S gm L) (hu : RWL S nr u) (hL : ∀ i, 0 ≤ i → i < (L.length : Int) → ((nmL L i).length : Int) ≤ 100000) : ∀ (n : Nat) (x2 : Int32), 0 ≤ x2.toInt → x2.toInt ≤ (L.length : Int) → (∀ i : Int, 0 ≤ i → i < x2.toInt → nmL L i ≠ u) → d_X1_hasTag_2 n gm nr x2 S = some o → o.2 = S ∧ (o.1.toInt = 0 ∨ o.1.toInt = 1) ∧ (o.1.toInt = 1 ↔ ∃ i, 0 ≤ i ∧ i < (L.length : Int) ∧ nmL L i = u) := by
  intro n
  induction n with
  | zero => intro x2 _ _ _ hf; cases hf
  | succ n ih =>
    intro x2 h0 h2 hs hf
    have hf : d_X1_hasTag_2s (d_X1_hasTag_2 n) gm nr x2 S = some o := hf
    have l1 := h.1
    have h8 := h.2.1
    unfold d_X1_hasTag_2s at hf
    obtain ⟨-, hf⟩ := m_chkE hf
    rcases m_ifE hf with ⟨c1, hf⟩ | ⟨c1, hf⟩
    · replace c1 := ti_leP (a := zI S 5 gm) (b := x2) c1 rfl rfl
      obtain ⟨-, hf⟩ := m_chkE hf
      cases hf
      refine ⟨rfl, Or.inl rfl, fun e => absurd (show (0 : Int32).toInt = 1 from e) (by decide), fun ⟨i, i0, i1, e⟩ => absurd e (hs i i0 (by omega))⟩
    · replace c1 := ti_leN (a := zI S 5 gm) (b := x2) c1 rfl rfl
      obtain ⟨-, hf⟩ := m_chkE hf
      obtain ⟨⟨r2, S3⟩, h_r2, hf⟩ := m_cal2E hf
      dsimp only at hf
      obtain ⟨e3, n1, v1, g1, g2, g3, g4⟩ := p_tagAt h ⟨h0, by omega⟩ h_r2
      rw [e3] at hf
      obtain ⟨-, hf⟩ := m_chkE hf
      replace hf := m_calY hf g1
      obtain ⟨-, hf⟩ := m_chkE hf
      obtain ⟨r7, h_r7, hf⟩ := m_calR hf (fun _ h => ro_X6_isLike h)
      dsimp only at hf
      obtain ⟨b7, q7⟩ := p_isLike g3 hu (hL x2.toInt h0 (by omega)) h_r7
      dsimp only at b7 q7
      obtain ⟨-, hf⟩ := m_chkE hf
      rcases m_ifE hf with ⟨c2, hf⟩ | ⟨c2, hf⟩
      · replace c2 := ti_eqP (a := r7) (b := (0 : Int32)) c2 rfl (show (0 : Int32).toInt = 0 from rfl)
        obtain ⟨v8, e8, hf⟩ := m_bndE hf
        have t8 : v8.toInt = x2.toInt + 1 := ti_add e8 rfl (show (1 : Int32).toInt = 1 from rfl) (by omega) (by omega)
        refine ih v8 (by omega) (by omega) (fun i i0 i1 => ?_) hf
        by_cases e : i = x2.toInt
        · rw [e]; exact fun g => by have := q7.2 g; omega
        · exact hs i i0 (by omega)
      · replace c2 := ti_eqN (a := r7) (b := (0 : Int32)) c2 rfl (show (0 : Int32).toInt = 0 from rfl)
        obtain ⟨-, hf⟩ := m_chkE hf
        cases hf
        exact ⟨rfl, Or.inr rfl, fun _ => ⟨x2.toInt, h0, by omega, q7.1 (by omega)⟩, fun _ => rfl⟩
theorem p_hasTag {gm nr : Nat} {u : List Int} {L : List (List Int × List Int)} (h : TGc S gm L) (hu : RWL S nr u) (hL : ∀ i, 0 ≤ i → i < (L.length : Int) → ((nmL L i).length : Int) ≤ 100000) (hf : d_X1_hasTag gm nr S = some o) : o.2 = S ∧ (o.1.toInt = 0 ∨ o.1.toInt = 1) ∧ (o.1.toInt = 1 ↔ ∃ i, 0 ≤ i ∧ i < (L.length : Int) ∧ nmL L i = u) := ht_2 h hu hL mFuel 0 (by decide) (show (0 : Int) ≤ (L.length : Int) by omega) (fun i i0 i1 => by have z : (0 : Int32).toInt = 0 := rfl; omega) hf
end LIK
