/-- a tag's value from p on: whether it is sound, where it ends, its signs -/
def vlP (ch : Int → Int) (N : Int) : Nat → Int → List Int → Bool × Int × List Int
  | 0, p, w => (false, p, w)
  | k + 1, p, w => if ch p = 34 then (true, p + 1, w) else if ch p = 92 then (if ch (p + 1) = 34 ∨ ch (p + 1) = 92 then vlP ch N k (p + 2) (w ++ [ch (p + 1)]) else (false, p + 1, w)) else if N ≤ p ∨ ch p = 10 then (false, p, w) else vlP ch N k (p + 1) (w ++ [ch p])
section VLS
variable {ch : Int → Int} {N p : Int} {k : Nat} {w : List Int}
theorem vl_q (h : ch p = 34) : vlP ch N (k + 1) p w = (true, p + 1, w) := if_pos h
theorem vl_e (h : ch p = 92) (g : ch (p + 1) = 34 ∨ ch (p + 1) = 92) : vlP ch N (k + 1) p w = vlP ch N k (p + 2) (w ++ [ch (p + 1)]) := by
  show (if ch p = 34 then _ else if ch p = 92 then (if ch (p + 1) = 34 ∨ ch (p + 1) = 92 then vlP ch N k (p + 2) (w ++ [ch (p + 1)]) else _) else _) = _
  rw [if_neg (by omega), if_pos h, if_pos g]
theorem vl_f (h : ch p = 92) (g : ¬ (ch (p + 1) = 34 ∨ ch (p + 1) = 92)) : vlP ch N (k + 1) p w = (false, p + 1, w) := by
  show (if ch p = 34 then _ else if ch p = 92 then (if ch (p + 1) = 34 ∨ ch (p + 1) = 92 then vlP ch N k (p + 2) (w ++ [ch (p + 1)]) else (false, p + 1, w)) else _) = _
  rw [if_neg (by omega), if_pos h, if_neg g]
theorem vl_n (h1 : ch p ≠ 34) (h2 : ch p ≠ 92) (h : N ≤ p ∨ ch p = 10) : vlP ch N (k + 1) p w = (false, p, w) := by
  show (if ch p = 34 then _ else if ch p = 92 then _ else if N ≤ p ∨ ch p = 10 then (false, p, w) else _) = _
  rw [if_neg h1, if_neg h2, if_pos h]
theorem vl_s (h1 : ch p ≠ 34) (h2 : ch p ≠ 92) (h : ¬ (N ≤ p ∨ ch p = 10)) : vlP ch N (k + 1) p w = vlP ch N k (p + 1) (w ++ [ch p]) := by
  show (if ch p = 34 then _ else if ch p = 92 then _ else if N ≤ p ∨ ch p = 10 then (false, p, w) else vlP ch N k (p + 1) (w ++ [ch p])) = _
  rw [if_neg h1, if_neg h2, if_neg h]
end VLS
section GRV
variable {S0 S S1 S' : ZS} {x0 tr nr vr : Nat} {ch : Int → Int} {N p q a : Int} {u w : List Int} {o : Int32 × ZS}
theorem p_readName (h : GRi S0 S x0 tr nr vr ch N p u w) (hp : p ≤ 80000) (hcb : ∀ i, 0 ≤ ch i ∧ ch i ≤ 127) (hf : d_X2_readName x0 S = some o) : ∃ a b, BL ch (p + 1) a ∧ NM ch a b ∧ GRi S0 o.2 x0 tr nr vr ch N b (wr ch a (b - a).toNat) w ∧ ((a < b ∧ o.1.toInt = 1) ∨ (a = b ∧ o.1.toInt = 0 ∧ (zI o.2 5 x0).toInt = 10000 + b)) := by
  have hf : d_X2_readName_0 x0 S = some o := hf
  have h4 := h.2.2.2.2.2.1
  have hp0 := h.2.2.2.2.2.2.1
  unfold d_X2_readName_0 at hf
  obtain ⟨-, hf⟩ := m_chkE hf
  obtain ⟨v1, e_v1, hf⟩ := m_bndE hf
  have t_v1 : v1.toInt = (zI S 4 x0).toInt + 1 := ti_add e_v1 rfl (show (1 : Int32).toInt = 1 from rfl) (by omega) (by omega)
  obtain ⟨-, hf⟩ := m_chkE hf
  obtain ⟨S2, e_S2, hf⟩ := m_bndE hf
  have G2 : GRi S0 S2 x0 tr nr vr ch N (p + 1) u w := gri_at h e_S2 (by omega) (by omega)
  obtain ⟨-, hf⟩ := m_chkE hf
  obtain ⟨⟨r3, S3c⟩, h_r3, hf⟩ := m_calE hf
  dsimp only at hf
  obtain ⟨a, g1, G3, -⟩ := gri_bl G2 h_r3
  dsimp only at G3
  obtain ⟨P2, P6, P7⟩ := gri_P G3
  obtain ⟨-, hf⟩ := m_chkE hf
  obtain ⟨-, hf⟩ := m_chkE hf
  replace hf := m_calY hf P6
  obtain ⟨-, hf⟩ := m_chkE hf
  obtain ⟨⟨r5, S5c⟩, h_r5, hf⟩ := m_calE hf
  dsimp only at hf
  have G5 := gri_kn G3 h_r5
  have a0 := G5.2.2.2.2.2.2.1
  obtain ⟨-, hf⟩ := m_chkE hf
  obtain ⟨b, g2, g3⟩ := rn_22 (a := a) mFuel S5c 0 (by rw [show a + ((0 : Nat) : Int) = a by omega]; exact G5) (fun j j0 j1 => by omega) a0.1 hcb hf
  exact ⟨a, b, g1, g2, g3⟩
/-- how the reading of a value ends -/
def VLo (S0 : ZS) (x0 tr nr vr : Nat) (ch : Int → Int) (N : Int) (u : List Int) (r : Bool × Int × List Int) (o : Int32 × ZS) : Prop := GRi S0 o.2 x0 tr nr vr ch N r.2.1 u r.2.2 ∧ ((r.1 = true ∧ o.1.toInt = 1) ∨ (r.1 = false ∧ o.1.toInt = 0 ∧ (zI o.2 5 x0).toInt = 10000 + r.2.1))
theorem vl_no (h : GRi S0 S x0 tr nr vr ch N p u w) {x2 : Int32} (h2 : x2.toInt = p) (hp : p ≤ 3000) (hf : f_X2_refuse x0 1 x2 S = some o) : VLo S0 x0 tr nr vr ch N u (false, p, w) o := by
  have hp0 := h.2.2.2.2.2.2.1
  obtain ⟨g1, v, g2, g3⟩ := p_refuse (x1 := 1) (x2 := x2) (by decide) (by omega) hf
  have z1 : (1 : Int32).toInt = 1 := rfl
  exact ⟨gri_fl h g3, Or.inr ⟨rfl, g1, by rw [g3, zI_self, g2]; show _ = 10000 + p; omega⟩⟩
theorem rv_48 (hcb : ∀ i, 0 ≤ ch i ∧ ch i ≤ 127) : ∀ (n : Nat) (S : ZS) (k : Nat) (p : Int) (w : List Int), GRi S0 S x0 tr nr vr ch N p u w → N < p + (k : Int) → 1 ≤ k → p ≤ N + 1 → (w.length : Int) ≤ p → d_X2_readValue_48 n x0 S = some o → VLo S0 x0 tr nr vr ch N u (vlP ch N k p w) o := by
  intro n
  induction n with
  | zero => intro S k p w _ _ _ _ _ hf; cases hf
  | succ n ih =>
    intro S k p w h hk hk1 hpN hwl hf
    have hf : d_X2_readValue_48s (d_X2_readValue_48 n) x0 S = some o := hf
    obtain ⟨k2, rfl⟩ : ∃ k2, k = k2 + 1 := ⟨k - 1, by omega⟩
    obtain ⟨kk, kt, kn, kv⟩ := gri_k h
    obtain ⟨P2, P6, P7⟩ := gri_P h
    obtain ⟨hc, hN⟩ := gri_t h
    have h4 := h.2.2.2.2.2.1
    have hp := h.2.2.2.2.2.2.1
    have hn := h.2.2.2.2.1.2.2
    have b0 := hcb p
    have b1 := hcb (p + 1)
    have out : N ≤ p → ch p = 0 := fun g => by rw [← hc]; exact rw_out (by omega)
    have cont : ∀ S1 (c : Int32) (p' : Int), GRi S0 S1 x0 tr nr vr ch N p' u w → c.toInt = ch p' → ch p' ≠ 10 → p ≤ p' → p' ≤ N → (w.length : Int) < 2000 → p < N → vlP ch N (k2 + 1) p w = vlP ch N k2 (p' + 1) (w ++ [ch p']) → d_X2_readValue_142 (d_X2_readValue_48 n) x0 c S1 = some o → VLo S0 x0 tr nr vr ch N u (vlP ch N (k2 + 1) p w) o := by
      intro S1 c p' G1 hcc hn10 hpp hpn hl hpl er hf
      obtain ⟨-, -, Q7⟩ := gri_P G1
      have b2 := hcb p'
      have hp' := G1.2.2.2.2.2.2.1
      unfold d_X2_readValue_142 at hf
      rcases m_ifE hf with ⟨c1, hf⟩ | ⟨c1, hf⟩
      · skip
        replace c1 := ti_eqP (a := c) (b := (10 : Int32)) c1 rfl (show (10 : Int32).toInt = 10 from rfl)
        omega
      · skip
        replace c1 := ti_eqN (a := c) (b := (10 : Int32)) c1 rfl (show (10 : Int32).toInt = 10 from rfl)
        obtain ⟨-, hf⟩ := m_chkE hf
        replace hf := m_calY hf Q7
        obtain ⟨-, hf⟩ := m_chkE hf
        obtain ⟨⟨r3, S4⟩, h_r3, hf⟩ := m_cal2E hf
        dsimp only at hf
        have G4 := gri_pv G1 hl (by omega) h_r3
        have h44 := G4.2.2.2.2.2.1
        rw [hcc] at G4
        obtain ⟨-, hf⟩ := m_chkE hf
        obtain ⟨v7, e_v7, hf⟩ := m_bndE hf
        have t_v7 : v7.toInt = (zI S4 4 x0).toInt + 1 := ti_add e_v7 rfl (show (1 : Int32).toInt = 1 from rfl) (by omega) (by omega)
        obtain ⟨-, hf⟩ := m_chkE hf
        obtain ⟨S8, e_S8, hf⟩ := m_bndE hf
        have G8 : GRi S0 S8 x0 tr nr vr ch N (p' + 1) u (w ++ [ch p']) := gri_at G4 e_S8 (by omega) (by omega)
        rw [er]
        refine ih S8 k2 (p' + 1) (w ++ [ch p']) G8 (by omega) (by omega) (by omega) ?_ hf
        rw [List.length_append]
        have : ([ch p'] : List Int).length = 1 := rfl
        omega
    unfold d_X2_readValue_48s at hf
    obtain ⟨-, hf⟩ := m_chkE hf
    obtain ⟨-, hf⟩ := m_chkE hf
    replace hf := m_calY hf P2
    obtain ⟨-, hf⟩ := m_chkE hf
    obtain ⟨r2, h_r2, hf⟩ := m_calR hf (fun _ h => ro_X6_size h)
    dsimp only at hf
    have p_r2 := pc_X6_size h_r2
    dsimp only at p_r2
    have q2 : r2.toInt = N := by rw [p_r2]; exact hN
    obtain ⟨-, hf⟩ := m_chkE hf
    rcases m_ifE hf with ⟨c1, hf⟩ | ⟨c1, hf⟩
    · skip
      replace c1 := ti_leP (a := r2) (b := (zI S 4 x0)) c1 rfl rfl
      obtain ⟨-, hf⟩ := m_chkE hf
      obtain ⟨-, hf⟩ := m_chkE hf
      obtain ⟨⟨r3, S3c⟩, h_r3, hf⟩ := m_calE hf
      dsimp only at hf
      have g3 := vl_no h h4 (by omega) h_r3
      rw [← vl_n (ch := ch) (p := p) (w := w) (N := N) (k := k2) (by rw [out (by omega)]; decide) (by rw [out (by omega)]; decide) (Or.inl (by omega))] at g3
      obtain ⟨-, hf⟩ := m_chkE hf
      obtain ⟨-, hf⟩ := m_chkE hf
      cases hf
      try dsimp only
      exact g3
    · skip
      replace c1 := ti_leN (a := r2) (b := (zI S 4 x0)) c1 rfl rfl
      obtain ⟨-, hf⟩ := m_chkE hf
      replace hf := m_calY hf P2
      obtain ⟨-, hf⟩ := m_chkE hf
      obtain ⟨-, hf⟩ := m_chkE hf
      obtain ⟨r5, h_r5, hf⟩ := m_calR hf (fun _ h => ro_X6_at h)
      dsimp only at hf
      have p_r5 := pc_X6_at h_r5
      dsimp only at p_r5
      rw [hc, h4] at p_r5
      obtain ⟨-, hf⟩ := m_chkE hf
      rcases m_ifE hf with ⟨c2, hf⟩ | ⟨c2, hf⟩
      · skip
        replace c2 := ti_eqP (a := r5) (b := (34 : Int32)) c2 rfl (show (34 : Int32).toInt = 34 from rfl)
        obtain ⟨-, hf⟩ := m_chkE hf
        obtain ⟨v11, e_v11, hf⟩ := m_bndE hf
        have t_v11 : v11.toInt = (zI S 4 x0).toInt + 1 := ti_add e_v11 rfl (show (1 : Int32).toInt = 1 from rfl) (by omega) (by omega)
        obtain ⟨-, hf⟩ := m_chkE hf
        obtain ⟨S12, e_S12, hf⟩ := m_bndE hf
        obtain ⟨-, hf⟩ := m_chkE hf
        cases hf
        try dsimp only
        rw [vl_q (by omega)]
        exact ⟨gri_at (q := p + 1) h e_S12 (by omega) (by omega), Or.inl ⟨rfl, rfl⟩⟩
      · skip
        replace c2 := ti_eqN (a := r5) (b := (34 : Int32)) c2 rfl (show (34 : Int32).toInt = 34 from rfl)
        rcases m_ifE hf with ⟨c3, hf⟩ | ⟨c3, hf⟩
        · skip
          replace c3 := ti_eqP (a := r5) (b := (92 : Int32)) c3 rfl (show (92 : Int32).toInt = 92 from rfl)
          obtain ⟨-, hf⟩ := m_chkE hf
          obtain ⟨v6, e_v6, hf⟩ := m_bndE hf
          have t_v6 : v6.toInt = (zI S 4 x0).toInt + 1 := ti_add e_v6 rfl (show (1 : Int32).toInt = 1 from rfl) (by omega) (by omega)
          obtain ⟨-, hf⟩ := m_chkE hf
          obtain ⟨S7, e_S7, hf⟩ := m_bndE hf
          have G7 : GRi S0 S7 x0 tr nr vr ch N (p + 1) u w := gri_at h e_S7 (by omega) (by omega)
          obtain ⟨P72, -, -⟩ := gri_P G7
          obtain ⟨hc7, -⟩ := gri_t G7
          have h74 := G7.2.2.2.2.2.1
          obtain ⟨-, hf⟩ := m_chkE hf
          replace hf := m_calY hf P72
          obtain ⟨-, hf⟩ := m_chkE hf
          obtain ⟨-, hf⟩ := m_chkE hf
          obtain ⟨r9, h_r9, hf⟩ := m_calR hf (fun _ h => ro_X6_at h)
          dsimp only at hf
          have p_r9 := pc_X6_at h_r9
          dsimp only at p_r9
          rw [hc7, h74] at p_r9
          obtain ⟨-, hf⟩ := m_chkE hf
          rcases m_ifE hf with ⟨c4, hf⟩ | ⟨c4, hf⟩
          · skip
            replace c4 := ti_eqP (a := r9) (b := (34 : Int32)) c4 rfl (show (34 : Int32).toInt = 34 from rfl)
            exact cont S7 r9 (p + 1) G7 p_r9 (by omega) (by omega) (by omega) (by omega) (by omega) (by rw [vl_e (by omega) (Or.inl (by omega)), show p + 1 + 1 = p + 2 by omega]) hf
          · skip
            replace c4 := ti_eqN (a := r9) (b := (34 : Int32)) c4 rfl (show (34 : Int32).toInt = 34 from rfl)
            rcases m_ifE hf with ⟨c5, hf⟩ | ⟨c5, hf⟩
            · skip
              replace c5 := ti_eqP (a := r9) (b := (92 : Int32)) c5 rfl (show (92 : Int32).toInt = 92 from rfl)
              exact cont S7 r9 (p + 1) G7 p_r9 (by omega) (by omega) (by omega) (by omega) (by omega) (by rw [vl_e (by omega) (Or.inr (by omega)), show p + 1 + 1 = p + 2 by omega]) hf
            · skip
              replace c5 := ti_eqN (a := r9) (b := (92 : Int32)) c5 rfl (show (92 : Int32).toInt = 92 from rfl)
              obtain ⟨-, hf⟩ := m_chkE hf
              obtain ⟨-, hf⟩ := m_chkE hf
              obtain ⟨⟨r10, S10c⟩, h_r10, hf⟩ := m_calE hf
              dsimp only at hf
              have g10 := vl_no G7 h74 (by omega) h_r10
              rw [← vl_f (ch := ch) (p := p) (w := w) (N := N) (k := k2) (by omega) (by omega)] at g10
              obtain ⟨-, hf⟩ := m_chkE hf
              obtain ⟨-, hf⟩ := m_chkE hf
              cases hf
              try dsimp only
              exact g10
        · skip
          replace c3 := ti_eqN (a := r5) (b := (92 : Int32)) c3 rfl (show (92 : Int32).toInt = 92 from rfl)
          by_cases c10 : ch p = 10
          · unfold d_X2_readValue_142 at hf
            rcases m_ifE hf with ⟨c9, hf⟩ | ⟨c9, hf⟩
            · obtain ⟨-, hf⟩ := m_chkE hf
              obtain ⟨-, hf⟩ := m_chkE hf
              obtain ⟨⟨r9, S9⟩, h_r9, hf⟩ := m_calE hf
              dsimp only at hf
              obtain ⟨-, hf⟩ := m_chkE hf
              obtain ⟨-, hf⟩ := m_chkE hf
              have g9 := vl_no h h4 (by omega) h_r9
              rw [← vl_n (ch := ch) (p := p) (w := w) (N := N) (k := k2) (by omega) (by omega) (Or.inr c10)] at g9
              cases hf
              exact g9
            · replace c9 := ti_eqN (a := r5) (b := (10 : Int32)) c9 rfl (show (10 : Int32).toInt = 10 from rfl)
              omega
          · exact cont S r5 p h p_r5 c10 (by omega) (by omega) (by omega) (by omega) (vl_s (by omega) (by omega) (by omega)) hf
theorem p_readValue (h : GRi S0 S x0 tr nr vr ch N p u w) (hpN : p ≤ N) (hcb : ∀ i, 0 ≤ ch i ∧ ch i ≤ 127) (hf : d_X2_readValue x0 S = some o) : ∃ a, BL ch p a ∧ a ≤ N ∧ ((ch a ≠ 34 ∧ GRi S0 o.2 x0 tr nr vr ch N a u w ∧ o.1.toInt = 0 ∧ (zI o.2 5 x0).toInt = 10000 + a) ∨ (ch a = 34 ∧ VLo S0 x0 tr nr vr ch N u (vlP ch N 2001 (a + 1) []) o)) := by
  have hf : d_X2_readValue_0 x0 S = some o := hf
  unfold d_X2_readValue_0 at hf
  obtain ⟨-, hf⟩ := m_chkE hf
  obtain ⟨⟨r1, S1c⟩, h_r1, hf⟩ := m_calE hf
  dsimp only at hf
  obtain ⟨a, g1, G1, g1'⟩ := gri_bl h h_r1
  dsimp only at G1
  obtain ⟨P2, P6, P7⟩ := gri_P G1
  obtain ⟨hc, hN⟩ := gri_t G1
  have h4 := G1.2.2.2.2.2.1
  have hp := G1.2.2.2.2.2.2.1
  have hn := G1.2.2.2.2.1.2.2
  have aN : a ≤ N := by omega
  obtain ⟨-, hf⟩ := m_chkE hf
  obtain ⟨-, hf⟩ := m_chkE hf
  replace hf := m_calY hf P2
  obtain ⟨-, hf⟩ := m_chkE hf
  obtain ⟨-, hf⟩ := m_chkE hf
  obtain ⟨r3, h_r3, hf⟩ := m_calR hf (fun _ h => ro_X6_at h)
  dsimp only at hf
  have p_r3 := pc_X6_at h_r3
  dsimp only at p_r3
  rw [hc, h4] at p_r3
  obtain ⟨-, hf⟩ := m_chkE hf
  rcases m_ifE hf with ⟨c1, hf⟩ | ⟨c1, hf⟩
  · skip
    replace c1 := ti_eqP (a := r3) (b := (34 : Int32)) c1 rfl (show (34 : Int32).toInt = 34 from rfl)
    obtain ⟨-, hf⟩ := m_chkE hf
    replace hf := m_calY hf P7
    obtain ⟨-, hf⟩ := m_chkE hf
    obtain ⟨⟨r5, S5c⟩, h_r5, hf⟩ := m_calE hf
    dsimp only at hf
    have G5 := gri_kv G1 h_r5
    have h54 := G5.2.2.2.2.2.1
    obtain ⟨-, hf⟩ := m_chkE hf
    obtain ⟨-, hf⟩ := m_chkE hf
    obtain ⟨v6, e_v6, hf⟩ := m_bndE hf
    have t_v6 : v6.toInt = (zI S5c 4 x0).toInt + 1 := ti_add e_v6 rfl (show (1 : Int32).toInt = 1 from rfl) (by omega) (by omega)
    obtain ⟨-, hf⟩ := m_chkE hf
    obtain ⟨S7, e_S7, hf⟩ := m_bndE hf
    have G7 : GRi S0 S7 x0 tr nr vr ch N (a + 1) u [] := gri_at G5 e_S7 (by omega) (by omega)
    exact ⟨a, g1, aN, Or.inr ⟨by omega, rv_48 hcb mFuel S7 2001 (a + 1) [] G7 (by omega) (by decide) (by omega) (by show (0 : Int) ≤ a + 1; omega) hf⟩⟩
  · skip
    replace c1 := ti_eqN (a := r3) (b := (34 : Int32)) c1 rfl (show (34 : Int32).toInt = 34 from rfl)
    obtain ⟨-, hf⟩ := m_chkE hf
    obtain ⟨-, hf⟩ := m_chkE hf
    obtain ⟨⟨r8, S8c⟩, h_r8, hf⟩ := m_calE hf
    dsimp only at hf
    have g8 := vl_no G1 h4 (by omega) h_r8
    obtain ⟨-, hf⟩ := m_chkE hf
    obtain ⟨-, hf⟩ := m_chkE hf
    cases hf
    try dsimp only
    obtain ⟨e1, e2⟩ := g8
    rcases e2 with ⟨e2, -⟩ | ⟨-, e2, e3⟩
    · cases e2
    · exact ⟨a, g1, aN, Or.inl ⟨by omega, e1, e2, e3⟩⟩
end GRV
