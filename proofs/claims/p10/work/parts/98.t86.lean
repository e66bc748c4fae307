section CP3
variable {S0 S S' : ZS} {x0 x1 : Nat} {u : List Int} {o : Int32 × ZS}
theorem ca_3 (hne : x1 ≠ x0) (hrc : rc x0 ≠ 2) (hu : u.length ≤ 200) (hcu : ∀ i, 0 ≤ wA u i ∧ wA u i ≤ 65535) : ∀ (n : Nat) (x2 : Int32) (S : ZS) (k : Nat), x2.toInt = (k : Int) → k ≤ u.length → ZT S → RWF S0 S x0 → RWL S x0 (u.take k) → RWL S x1 u → zK S x0 = 6 → zK S x1 = 6 → d_X6_putAll_2 n x0 x1 x2 S = some o → ZT o.2 ∧ RWF S0 o.2 x0 ∧ RWL o.2 x0 u := by
  intro n
  induction n with
  | zero => intro x2 S k _ _ _ _ _ _ _ _ hf; cases hf
  | succ n ih =>
    intro x2 S k hx hk hT hF h0 h1 k0 k1 hf
    have hf : d_X6_putAll_2s (d_X6_putAll_2 n) x0 x1 x2 S = some o := hf
    have l1 := h1.1
    have l0 := h0.1
    have rl := rL_ge x0
    have lt : (u.take k).length = k := by rw [List.length_take]; omega
    unfold d_X6_putAll_2s at hf
    obtain ⟨-, hf⟩ := m_chkE hf
    rcases m_ifE hf with ⟨c1, hf⟩ | ⟨c1, hf⟩
    · skip
      replace c1 := ti_leP (a := (zI S 1 x1)) (b := x2) c1 rfl rfl
      cases hf
      try dsimp only
      refine ⟨hT, hF, ?_⟩
      rw [List.take_of_length_le (by omega)] at h0
      exact h0
    · skip
      replace c1 := ti_leN (a := (zI S 1 x1)) (b := x2) c1 rfl rfl
      obtain ⟨-, hf⟩ := m_chkE hf
      obtain ⟨r1, h_r1, hf⟩ := m_calR hf (fun _ h => ro_X6_at h)
      dsimp only at hf
      have p_r1 := pc_X6_at h_r1
      dsimp only at p_r1
      rw [h1.2, hx] at p_r1
      have c1' := hcu (k : Int)
      obtain ⟨-, hf⟩ := m_chkE hf
      obtain ⟨-, hf⟩ := m_chkE hf
      obtain ⟨⟨r3, S4⟩, h_r3, hf⟩ := m_cal2E hf
      dsimp only at hf
      have T4 : ZT S4 := (ok_of (t_d_X6_put (SZ := S) hT (rp_0 S) k0 (by omega) (by rw [l0, lt]; omega) hrc) h_r3).1
      obtain ⟨g1, g2⟩ := p_rput hT k0 h0 (by rw [lt]; omega) (by omega) h_r3
      rw [p_r1, take_s (by omega)] at g1
      obtain ⟨v7, e_v7, hf⟩ := m_bndE hf
      have t_v7 : v7.toInt = x2.toInt + 1 := ti_add e_v7 rfl (show (1 : Int32).toInt = 1 from rfl) (by omega) (by omega)
      exact ih v7 S4 (k + 1) (by omega) (by omega) T4 (rwf_t hF g2) g1 (rwf_l g2 k1 hne h1) (by rw [(g2.1 x0 (by rw [k0]; decide)).1]; exact k0) (by rw [(g2.1 x1 (by rw [k1]; decide)).1]; exact k1) hf
/-- the same, for rows of at most 200 signs -/
theorem p_copy200 (hT : ZT S) (hne : x1 ≠ x0) (hrc : rc x0 ≠ 2) (hu : u.length ≤ 200) (hcu : ∀ i, 0 ≤ wA u i ∧ wA u i ≤ 65535) (h1 : RWL S x1 u) (k0 : zK S x0 = 6) (k1 : zK S x1 = 6) (hz : 0 ≤ (zI S 1 x0).toInt) (hf : d_X6_copyFrom x0 x1 S = some o) : ZT o.2 ∧ RWF S o.2 x0 ∧ RWL o.2 x0 u := by
  have hf : d_X6_copyFrom_0 x0 x1 S = some o := hf
  unfold d_X6_copyFrom_0 at hf
  obtain ⟨-, hf⟩ := m_chkE hf
  obtain ⟨S1, e1, hf⟩ := m_bndE hf
  obtain ⟨-, hf⟩ := m_chkE hf
  obtain ⟨⟨r3, S4⟩, h_r3, hf⟩ := m_cal2E hf
  dsimp only at hf
  obtain ⟨g1, g2⟩ := rwl_0 e1
  have T1 : ZT S1 := e1.symm ▸ zt_I0 hT k0 (fun _ => ⟨show (0 : Int) ≤ (0 : Int32).toInt by decide, show (0 : Int32).toInt ≤ _ from hz⟩) (fun e => absurd e.1 (by decide)) (tf_b _)
  have g := ca_3 (S0 := S) hne hrc hu hcu mFuel 0 S1 0 rfl (Nat.zero_le _) T1 g2 g1 (rwf_l g2 k1 hne h1) (by rw [(g2.1 x0 (by rw [k0]; decide)).1]; exact k0) (by rw [(g2.1 x1 (by rw [k1]; decide)).1]; exact k1) h_r3
  cases hf
  exact g
end CP3
/-- a text that may be a remark -/
noncomputable def SYo (ch : Int → Int) (N : Int) : Prop := N ≤ 200 ∧ ∀ i, 0 ≤ i → i < N → ch i ≠ 125 ∧ ch i ≠ 10
noncomputable def cuF (ch : Int → Int) (n : Int) : Int → Int := fun i => if i < n then ch i else 0
section CUS
variable {S S' : ZS} {g g' : Nat} {ch : Int → Int} {N : Int} {x1 : Int32}
theorem tx_l (hC : CG S) (hx : TXc S ch N) : ∃ w, RWL S 2 w ∧ (w.length : Int) = N ∧ (∀ i, wA w i = ch i) := by
  obtain ⟨w, hw⟩ := rwl_ex hC.1 (show zK S 2 = 6 from fx_k hC.2.2.1 (by decide) (by decide))
  exact ⟨w, hw, by rw [← hw.1]; exact hx.2.1, fun i => by rw [← hw.2 i, hx.1]⟩
theorem zt_k2 {n y : Int32} (hC : CG S) (h : TXc S ch N) (h0 : 0 ≤ n.toInt ∧ n.toInt ≤ N) (hf : f_X6_keep 2 n S = some (y, S')) : CG S' ∧ TXc S' (cuF ch n.toInt) n.toInt ∧ FR (fun a => a = 2) S S' := by
  have k2 : zK S 2 = 6 := fx_k hC.2.2.1 (by decide) (by decide)
  obtain ⟨w, hw, hl, hc⟩ := tx_l hC h
  obtain ⟨-, -, hN, hcb⟩ := id h
  obtain ⟨a1, a2, a3⟩ := p_keep hw h0.1 hf
  have T' : ZT S' := by
    rcases a3 with a3 | a3
    · rw [a3]; exact hC.1
    · rw [a3]
      exact zt_I0 hC.1 k2 (fun _ => ⟨h0.1, by rw [hw.1, hl]; exact h0.2⟩) (fun e => absurd e.1 (by decide)) (tf_b _)
  have F := fr_r a2 k2
  have Z' : TZ S' := tz_k hC.1 hC.2.1 F (fun a _ e => by rw [e, k2]; exact ⟨by decide, by decide, fun h => absurd h (by decide)⟩)
  have C' : CG S' := cg_w hC T' Z' F (by decide) (by decide) (by decide) (by decide)
  refine ⟨C', ⟨funext (fun i => ?_), ?_, ⟨h0.1, by omega⟩, fun i => ?_⟩, F⟩
  · rw [a1.2 i, wA_take, hc i]
    unfold cuF
    rw [show ((n.toInt.toNat : Nat) : Int) = n.toInt by omega]
  · rw [a1.1, List.length_take]
    omega
  · unfold cuF
    split
    · exact hcb i
    · decide
/-- the class's cut -/
theorem p_cut {o : Int32 × ZS} (hC : CG S) (hx : TXc S ch N) (hf : f_X11_cut 1 x1 S = some o) : ((0 ≤ x1.toInt ∧ x1.toInt ≤ N) ∧ o.1.toInt = 1 ∧ CG o.2 ∧ TXc o.2 (cuF ch x1.toInt) x1.toInt ∧ FR (fun a => a = 2) S o.2) ∨ (¬ (0 ≤ x1.toInt ∧ x1.toInt ≤ N) ∧ o.1.toInt = 0 ∧ o.2 = S) := by
  have hf : f_X11_cut_0 1 x1 S = some o := hf
  have p0 : zP S 0 1 = some 2 := fx_p hC.2.2.1 (by decide)
  have no : f_X11_cut_15 S = some o → o.1.toInt = 0 ∧ o.2 = S := fun hf => by
    unfold f_X11_cut_15 at hf
    obtain ⟨-, hf⟩ := m_chkE hf
    cases hf
    exact ⟨rfl, rfl⟩
  unfold f_X11_cut_0 at hf
  rcases m_ifE hf with ⟨c1, hf⟩ | ⟨c1, hf⟩
  · skip
    replace c1 := ti_ltP (a := x1) (b := (0 : Int32)) c1 rfl (show (0 : Int32).toInt = 0 from rfl)
    exact Or.inr ⟨by omega, no hf⟩
  · skip
    replace c1 := ti_ltN (a := x1) (b := (0 : Int32)) c1 rfl (show (0 : Int32).toInt = 0 from rfl)
    obtain ⟨-, hf⟩ := m_chkE hf
    replace hf := m_calY hf p0
    obtain ⟨-, hf⟩ := m_chkE hf
    obtain ⟨r2, h_r2, hf⟩ := m_calR hf (fun _ h => ro_X6_size h)
    dsimp only at hf
    have p_r2 := pc_X6_size h_r2
    dsimp only at p_r2
    have q2 : r2.toInt = N := by rw [p_r2]; exact hx.2.1
    rcases m_ifE hf with ⟨c2, hf⟩ | ⟨c2, hf⟩
    · skip
      replace c2 := ti_leP (a := x1) (b := r2) c2 rfl rfl
      obtain ⟨-, hf⟩ := m_chkE hf
      replace hf := m_calY hf p0
      obtain ⟨-, hf⟩ := m_chkE hf
      obtain ⟨⟨r4, S4c⟩, h_r4, hf⟩ := m_calE hf
      dsimp only at hf
      have g4 := zt_k2 hC hx (by omega) h_r4
      obtain ⟨-, hf⟩ := m_chkE hf
      cases hf
      try dsimp only
      exact Or.inl ⟨by omega, rfl, g4⟩
    · skip
      replace c2 := ti_leN (a := x1) (b := r2) c2 rfl rfl
      exact Or.inr ⟨by omega, no hf⟩
end CUS
section CUR
variable {I : Nat → Int32} {A : Nat → Nat → Int32} {ch : Int → Int} {N : Int} {o : Int32 × MS} {x1 : Int32}
/-- the reference's cut -/
theorem v_cut (hc : txR I A = ch) (hn : (I 1).toInt = N) (hf : f_cut x1 I A = some o) : ((0 ≤ x1.toInt ∧ x1.toInt ≤ N) ∧ o.1.toInt = 1 ∧ txR o.2.1 o.2.2 = cuF ch x1.toInt ∧ (o.2.1 1).toInt = x1.toInt) ∨ (¬ (0 ≤ x1.toInt ∧ x1.toInt ≤ N) ∧ o.1.toInt = 0 ∧ txR o.2.1 o.2.2 = ch ∧ (o.2.1 1).toInt = N) := by
  have hf : f_cut_0 x1 I A = some o := hf
  unfold f_cut_0 at hf
  obtain ⟨I1, e1, hf⟩ := m_bndE hf
  have j1 : I1 1 = I 1 := by rw [e1, upd_ne (by decide)]
  have c1 : txR I1 A = ch := by rw [← hc]; funext i; unfold txR; rw [j1]
  have no : f_cut_17 I1 A = some o → o.1.toInt = 0 ∧ txR o.2.1 o.2.2 = ch ∧ (o.2.1 1).toInt = N := fun hf => by
    unfold f_cut_17 at hf
    obtain ⟨-, hf⟩ := m_chkE hf
    cases hf
    exact ⟨rfl, c1, by rw [← hn, ← j1]⟩
  rcases m_ifE hf with ⟨c, hf⟩ | ⟨c, hf⟩
  · replace c := ti_ltP (a := x1) (b := (0 : Int32)) c rfl (show (0 : Int32).toInt = 0 from rfl)
    exact Or.inr ⟨by omega, no hf⟩
  · replace c := ti_ltN (a := x1) (b := (0 : Int32)) c rfl (show (0 : Int32).toInt = 0 from rfl)
    rcases m_ifE hf with ⟨d, hf⟩ | ⟨d, hf⟩
    · replace d := ti_leP (a := x1) (b := I1 1) d rfl rfl
      rw [j1] at d
      obtain ⟨I2, e2, hf⟩ := m_bndE hf
      obtain ⟨-, hf⟩ := m_chkE hf
      cases hf
      have j2 : I2 1 = x1 := by rw [e2, upd_self]
      refine Or.inl ⟨by omega, rfl, funext (fun i => ?_), by show (I2 1).toInt = _; rw [j2]⟩
      show txR I2 A i = _
      rw [← hc]
      unfold cuF txR
      rw [j2]
      by_cases e : i < x1.toInt
      · rw [if_pos e]
        by_cases e0 : 0 ≤ i
        · rw [if_pos ⟨e0, e⟩, if_pos ⟨e0, by omega⟩]
        · rw [if_neg (by omega), if_neg (by omega)]
      · rw [if_neg e, if_neg (by omega)]
    · replace d := ti_leN (a := x1) (b := I1 1) d rfl rfl
      rw [j1] at d
      exact Or.inr ⟨by omega, no hf⟩
end CUR
