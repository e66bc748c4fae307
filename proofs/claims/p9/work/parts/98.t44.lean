section CPY
variable {S0 S S' : ZS} {x0 x1 : Nat} {u : List Int} {o : Int32 × ZS}
theorem take_s {u : List Int} {k : Nat} (h : k < u.length) : u.take k ++ [wA u (k : Int)] = u.take (k + 1) := by
  have l1 : (u.take k).length = k := by rw [List.length_take]; omega
  have l2 : (u.take (k + 1)).length = k + 1 := by rw [List.length_take]; omega
  refine wA_ext (by rw [List.length_append, l1, l2]; rfl) (fun i i0 i1 => ?_)
  rw [l2] at i1
  rw [wA_app, wA_take, wA_take, l1]
  by_cases e : i = (k : Int)
  · rw [if_pos e, if_pos (by omega), e]
  · rw [if_neg e, if_pos (by omega), if_pos (by omega)]
theorem ca_2 (hne : x1 ≠ x0) (hrc : rc x0 ≠ 2) (hu : u.length ≤ 150) (hcu : ∀ i, 0 ≤ wA u i ∧ wA u i ≤ 65535) : ∀ (n : Nat) (x2 : Int32) (S : ZS) (k : Nat), x2.toInt = (k : Int) → k ≤ u.length → ZT S → RWF S0 S x0 → RWL S x0 (u.take k) → RWL S x1 u → zK S x0 = 6 → zK S x1 = 6 → d_X6_putAll_2 n x0 x1 x2 S = some o → ZT o.2 ∧ RWF S0 o.2 x0 ∧ RWL o.2 x0 u := by
  intro n
  induction n with
  | zero => intro x2 S k _ _ _ _ _ _ _ _ hf; cases hf
  | succ n ih =>
    intro x2 S k hx hk hT hF h0 h1 k0 k1 hf
    have hf : d_X6_putAll_2s (d_X6_putAll_2 n) x0 x1 x2 S = some o := hf
    have l1 := h1.1
    have l0 := h0.1
    have rl := rL_ge x0
    have lt : (u.take k).length = k := by rw [List.length_take]; omega
    unfold d_X6_putAll_2s at hf
    obtain ⟨-, hf⟩ := m_chkE hf
    rcases m_ifE hf with ⟨c1, hf⟩ | ⟨c1, hf⟩
    · skip
      replace c1 := ti_leP (a := (zI S 1 x1)) (b := x2) c1 rfl rfl
      cases hf
      try dsimp only
      refine ⟨hT, hF, ?_⟩
      rw [List.take_of_length_le (by omega)] at h0
      exact h0
    · skip
      replace c1 := ti_leN (a := (zI S 1 x1)) (b := x2) c1 rfl rfl
      obtain ⟨-, hf⟩ := m_chkE hf
      obtain ⟨r1, h_r1, hf⟩ := m_calR hf (fun _ h => ro_X6_at h)
      dsimp only at hf
      have p_r1 := pc_X6_at h_r1
      dsimp only at p_r1
      rw [h1.2, hx] at p_r1
      have c1' := hcu (k : Int)
      obtain ⟨-, hf⟩ := m_chkE hf
      obtain ⟨-, hf⟩ := m_chkE hf
      obtain ⟨⟨r3, S4⟩, h_r3, hf⟩ := m_cal2E hf
      dsimp only at hf
      have T4 : ZT S4 := (ok_of (t_d_X6_put (SZ := S) hT (rp_0 S) k0 (by omega) (by rw [l0, lt]; omega) hrc) h_r3).1
      obtain ⟨g1, g2⟩ := p_rput hT k0 h0 (by rw [lt]; omega) (by omega) h_r3
      rw [p_r1, take_s (by omega)] at g1
      obtain ⟨v7, e_v7, hf⟩ := m_bndE hf
      have t_v7 : v7.toInt = x2.toInt + 1 := ti_add e_v7 rfl (show (1 : Int32).toInt = 1 from rfl) (by omega) (by omega)
      exact ih v7 S4 (k + 1) (by omega) (by omega) T4 (rwf_t hF g2) g1 (rwf_l g2 k1 hne h1) (by rw [(g2.1 x0 (by rw [k0]; decide)).1]; exact k0) (by rw [(g2.1 x1 (by rw [k1]; decide)).1]; exact k1) hf
end CPY
