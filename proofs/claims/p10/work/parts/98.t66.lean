/-- which sign tells a result -/
noncomputable def rsS (r : Int) : Nat := if r = 1 then 3 else if r = 2 then 4 else if r = 3 then 5 else 6
theorem sL3 : strL 3 = [49, 45, 48] := by decide
theorem sL4 : strL 4 = [48, 45, 49] := by decide
theorem sL5 : strL 5 = [49, 47, 50, 45, 49, 47, 50] := by decide
theorem sL6 : strL 6 = [42] := by decide
section RSC
variable {ch : Int → Int} {N p : Int} {S : ZS} {x1 : Int32}
theorem hl_3 (hp : 0 ≤ p) (hz : ∀ i, N ≤ i → ch i = 0) : HLD ch N 3 p ↔ ch p = 49 ∧ ch (p + 1) = 45 ∧ ch (p + 2) = 48 := by
  unfold HLD
  rw [sL3]
  constructor
  · rintro ⟨-, -, h⟩
    have h0 := h 0 (by decide) (by decide)
    have h1 := h 1 (by decide) (by decide)
    have h2 := h 2 (by decide) (by decide)
    rw [Int.add_zero] at h0
    exact ⟨h0, h1, h2⟩
  · rintro ⟨h0, h1, h2⟩
    refine ⟨hp, ?_, fun i i0 i1 => ?_⟩
    · show p + 3 ≤ N
      by_cases c : p + 3 ≤ N
      · exact c
      · have := hz (p + 2) (by omega); omega
    · have i1' : i < 3 := i1
      rcases (by omega : i = 0 ∨ i = 1 ∨ i = 2) with e | e | e <;> subst e
      · rw [Int.add_zero]; exact h0
      · exact h1
      · exact h2
theorem hl_4 (hp : 0 ≤ p) (hz : ∀ i, N ≤ i → ch i = 0) : HLD ch N 4 p ↔ ch p = 48 ∧ ch (p + 1) = 45 ∧ ch (p + 2) = 49 := by
  unfold HLD
  rw [sL4]
  constructor
  · rintro ⟨-, -, h⟩
    have h0 := h 0 (by decide) (by decide)
    have h1 := h 1 (by decide) (by decide)
    have h2 := h 2 (by decide) (by decide)
    rw [Int.add_zero] at h0
    exact ⟨h0, h1, h2⟩
  · rintro ⟨h0, h1, h2⟩
    refine ⟨hp, ?_, fun i i0 i1 => ?_⟩
    · show p + 3 ≤ N
      by_cases c : p + 3 ≤ N
      · exact c
      · have := hz (p + 2) (by omega); omega
    · have i1' : i < 3 := i1
      rcases (by omega : i = 0 ∨ i = 1 ∨ i = 2) with e | e | e <;> subst e
      · rw [Int.add_zero]; exact h0
      · exact h1
      · exact h2
theorem hl_6 (hp : 0 ≤ p) (hz : ∀ i, N ≤ i → ch i = 0) : HLD ch N 6 p ↔ ch p = 42 := by
  unfold HLD
  rw [sL6]
  constructor
  · rintro ⟨-, -, h⟩
    have h0 := h 0 (by decide) (by decide)
    rw [Int.add_zero] at h0
    exact h0
  · intro h0
    refine ⟨hp, ?_, fun i i0 i1 => ?_⟩
    · show p + 1 ≤ N
      by_cases c : p + 1 ≤ N
      · exact c
      · have := hz p (by omega); omega
    · have i1' : i < 1 := i1
      have e : i = 0 := by omega
      subst e
      rw [Int.add_zero]; exact h0
theorem hl_5 (hp : 0 ≤ p) (hz : ∀ i, N ≤ i → ch i = 0) : HLD ch N 5 p ↔ (ch p = 49 ∧ ch (p + 1) = 47 ∧ ch (p + 2) = 50) ∧ ch (p + 3) = 45 ∧ ch (p + 4) = 49 ∧ ch (p + 5) = 47 ∧ ch (p + 6) = 50 := by
  unfold HLD
  rw [sL5]
  constructor
  · rintro ⟨-, -, h⟩
    have h0 := h 0 (by decide) (by decide)
    have h1 := h 1 (by decide) (by decide)
    have h2 := h 2 (by decide) (by decide)
    have h3 := h 3 (by decide) (by decide)
    have h4 := h 4 (by decide) (by decide)
    have h5 := h 5 (by decide) (by decide)
    have h6 := h 6 (by decide) (by decide)
    rw [Int.add_zero] at h0
    exact ⟨⟨h0, h1, h2⟩, h3, h4, h5, h6⟩
  · rintro ⟨⟨h0, h1, h2⟩, h3, h4, h5, h6⟩
    refine ⟨hp, ?_, fun i i0 i1 => ?_⟩
    · show p + 7 ≤ N
      by_cases c : p + 7 ≤ N
      · exact c
      · have := hz (p + 6) (by omega); omega
    · have i1' : i < 7 := i1
      rcases (by omega : i = 0 ∨ i = 1 ∨ i = 2 ∨ i = 3 ∨ i = 4 ∨ i = 5 ∨ i = 6) with e | e | e | e | e | e | e <;> subst e
      · rw [Int.add_zero]; exact h0
      · exact h1
      · exact h2
      · exact h3
      · exact h4
      · exact h5
      · exact h6
theorem rsV_h (hp : 0 ≤ p) (hz : ∀ i, N ≤ i → ch i = 0) : ((∃ r, 0 ≤ r ∧ r < 4 ∧ HLD ch N (rsS r) p ∧ (∀ s, 0 ≤ s → s < r → ¬ HLD ch N (rsS s) p) ∧ rsV ch p = r) ∨ ((∀ s, 0 ≤ s → s < 4 → ¬ HLD ch N (rsS s) p) ∧ rsV ch p = -1)) := by
  have e0 := hl_6 hp hz
  have e1 := hl_3 hp hz
  have e2 := hl_4 hp hz
  have e3 := hl_5 hp hz
  have s0 : rsS 0 = 6 := rfl
  have s1 : rsS 1 = 3 := rfl
  have s2 : rsS 2 = 4 := rfl
  have s3 : rsS 3 = 5 := rfl
  unfold rsV
  by_cases c0 : ch p = 42
  · rw [if_pos c0]
    exact Or.inl ⟨0, by decide, by decide, by rw [s0]; exact e0.2 c0, fun s h1 h2 => by omega, rfl⟩
  · rw [if_neg c0]
    have n0 : ¬ HLD ch N (rsS 0) p := fun h => c0 (e0.1 (by rw [s0] at h; exact h))
    by_cases c1 : ch p = 49 ∧ ch (p + 1) = 45 ∧ ch (p + 2) = 48
    · rw [if_pos c1]
      refine Or.inl ⟨1, by decide, by decide, by rw [s1]; exact e1.2 c1, fun s h1 h2 => ?_, rfl⟩
      rw [show s = 0 by omega]; exact n0
    · rw [if_neg c1]
      have n1 : ¬ HLD ch N (rsS 1) p := fun h => c1 (e1.1 (by rw [s1] at h; exact h))
      by_cases c2 : ch p = 48 ∧ ch (p + 1) = 45 ∧ ch (p + 2) = 49
      · rw [if_pos c2]
        refine Or.inl ⟨2, by decide, by decide, by rw [s2]; exact e2.2 c2, fun s h1 h2 => ?_, rfl⟩
        rcases (by omega : s = 0 ∨ s = 1) with e | e <;> rw [e]
        · exact n0
        · exact n1
      · rw [if_neg c2]
        have n2 : ¬ HLD ch N (rsS 2) p := fun h => c2 (e2.1 (by rw [s2] at h; exact h))
        by_cases c3 : (ch p = 49 ∧ ch (p + 1) = 47 ∧ ch (p + 2) = 50) ∧ ch (p + 3) = 45 ∧ ch (p + 4) = 49 ∧ ch (p + 5) = 47 ∧ ch (p + 6) = 50
        · rw [if_pos c3]
          refine Or.inl ⟨3, by decide, by decide, by rw [s3]; exact e3.2 c3, fun s h1 h2 => ?_, rfl⟩
          rcases (by omega : s = 0 ∨ s = 1 ∨ s = 2) with e | e | e <;> rw [e]
          · exact n0
          · exact n1
          · exact n2
        · rw [if_neg c3]
          have n3 : ¬ HLD ch N (rsS 3) p := fun h => c3 (e3.1 (by rw [s3] at h; exact h))
          refine Or.inr ⟨fun s h1 h2 => ?_, rfl⟩
          rcases (by omega : s = 0 ∨ s = 1 ∨ s = 2 ∨ s = 3) with e | e | e | e <;> rw [e]
          · exact n0
          · exact n1
          · exact n2
          · exact n3
theorem p_resultSign {o : Nat × ZS} (hf : f_X11_resultSign x1 S = some o) : o.1 = rsS x1.toInt ∧ o.2 = S := by
  have hr := ro_X11_resultSign hf
  have hf : f_X11_resultSign_0 x1 S = some o := hf
  refine ⟨?_, hr⟩
  unfold rsS
  unfold f_X11_resultSign_0 at hf
  rcases m_ifE hf with ⟨c1, hf⟩ | ⟨c1, hf⟩
  · skip
    replace c1 := ti_eqP (a := x1) (b := (1 : Int32)) c1 rfl (show (1 : Int32).toInt = 1 from rfl)
    cases hf
    try dsimp only
    rw [if_pos (by omega)]
  · skip
    replace c1 := ti_eqN (a := x1) (b := (1 : Int32)) c1 rfl (show (1 : Int32).toInt = 1 from rfl)
    rcases m_ifE hf with ⟨c2, hf⟩ | ⟨c2, hf⟩
    · skip
      replace c2 := ti_eqP (a := x1) (b := (2 : Int32)) c2 rfl (show (2 : Int32).toInt = 2 from rfl)
      cases hf
      try dsimp only
      rw [if_neg (by omega), if_pos (by omega)]
    · skip
      replace c2 := ti_eqN (a := x1) (b := (2 : Int32)) c2 rfl (show (2 : Int32).toInt = 2 from rfl)
      rcases m_ifE hf with ⟨c3, hf⟩ | ⟨c3, hf⟩
      · skip
        replace c3 := ti_eqP (a := x1) (b := (3 : Int32)) c3 rfl (show (3 : Int32).toInt = 3 from rfl)
        cases hf
        try dsimp only
        rw [if_neg (by omega), if_neg (by omega), if_pos (by omega)]
      · skip
        replace c3 := ti_eqN (a := x1) (b := (3 : Int32)) c3 rfl (show (3 : Int32).toInt = 3 from rfl)
        cases hf
        try dsimp only
        rw [if_neg (by omega), if_neg (by omega), if_neg (by omega)]
theorem rhc_2 {o : Int32 × ZS} (h : LW S ch N p) : ∀ (n : Nat) (x1 : Int32), (0 ≤ x1.toInt ∧ x1.toInt ≤ 4) → (∀ s, 0 ≤ s → s < x1.toInt → ¬ HLD ch N (rsS s) p) → f_X2_resultHere_2 n 23 x1 S = some o → (0 ≤ o.1.toInt ∧ o.1.toInt < 4 ∧ HLD ch N (rsS o.1.toInt) p ∧ ∀ s, 0 ≤ s → s < o.1.toInt → ¬ HLD ch N (rsS s) p) ∨ (o.1.toInt = -1 ∧ ∀ s, 0 ≤ s → s < 4 → ¬ HLD ch N (rsS s) p) := by
  obtain ⟨hT, ⟨k23, p2, k2⟩, ⟨hc, hN1, hn⟩, hcb, h44, hp⟩ := id h
  intro n
  induction n with
  | zero => intro x1 _ _ hf; cases hf
  | succ n ih =>
    intro x1 hx hs hf
    have hf : f_X2_resultHere_2s (f_X2_resultHere_2 n) 23 x1 S = some o := hf
    unfold f_X2_resultHere_2s at hf
    rcases m_ifE hf with ⟨c1, hf⟩ | ⟨c1, hf⟩
    · skip
      replace c1 := ti_leP (a := (4 : Int32)) (b := x1) c1 (show (4 : Int32).toInt = 4 from rfl) rfl
      cases hf
      try dsimp only
      exact Or.inr ⟨rfl, fun s s0 s1 => hs s s0 (by omega)⟩
    · skip
      replace c1 := ti_leN (a := (4 : Int32)) (b := x1) c1 (show (4 : Int32).toInt = 4 from rfl) rfl
      obtain ⟨-, hf⟩ := m_chkE hf
      replace hf := m_calY hf p2
      obtain ⟨r2, h_r2, hf⟩ := m_calR hf (fun _ h => ro_X11_resultSign h)
      dsimp only at hf
      obtain ⟨q2, -⟩ := p_resultSign h_r2
      dsimp only at q2
      obtain ⟨-, hf⟩ := m_chkE hf
      obtain ⟨-, hf⟩ := m_chkE hf
      obtain ⟨r3, h_r3, hf⟩ := m_calR hf (fun _ h => ro_X6_holds h)
      dsimp only at hf
      have p_r3 := pc_X6_holds h_r3
      dsimp only at p_r3
      have q3 := p_r3 (by omega) (by omega)
      rw [hc, hN1, h44, q2] at q3
      clear p_r3
      rcases m_ifE hf with ⟨c2, hf⟩ | ⟨c2, hf⟩
      · skip
        replace c2 := ti_eqP (a := r3) (b := (0 : Int32)) c2 rfl (show (0 : Int32).toInt = 0 from rfl)
        obtain ⟨v4, e_v4, hf⟩ := m_bndE hf
        have t_v4 : v4.toInt = x1.toInt + 1 := ti_add e_v4 rfl (show (1 : Int32).toInt = 1 from rfl) (by omega) (by omega)
        refine ih v4 (by omega) (fun s s0 s1 => ?_) hf
        by_cases e : s = x1.toInt
        · rw [e]; exact fun g => by have := q3.2.2 g; omega
        · exact hs s s0 (by omega)
      · skip
        replace c2 := ti_eqN (a := r3) (b := (0 : Int32)) c2 rfl (show (0 : Int32).toInt = 0 from rfl)
        cases hf
        try dsimp only
        exact Or.inl ⟨by omega, by omega, q3.2.1 (by omega), hs⟩
/-- the class's result at its place -/
theorem p_resultHere {o : Int32 × ZS} (h : LW S ch N p) (hf : f_X2_resultHere 23 S = some o) : o.2 = S ∧ o.1.toInt = rsV ch p := by
  have hr := ro_X2_resultHere hf
  refine ⟨hr, ?_⟩
  have g := rhc_2 h mFuel 0 (by decide) (fun s s0 s1 => by have z : (0 : Int32).toInt = 0 := rfl; omega) hf
  rcases g with ⟨g1, g2, g3, g4⟩ | ⟨g1, g2⟩ <;> rcases rsV_h (N := N) h.2.2.2.2.2.1 (fun i hi => lw_out h hi) with ⟨r, r1, r2, r3, r4, r5⟩ | ⟨r1, r2⟩
  · rw [r5]
    rcases Int.lt_trichotomy o.1.toInt r with e | e | e
    · exact absurd g3 (r4 _ g1 e)
    · exact e
    · exact absurd r3 (g4 _ r1 e)
  · exact absurd g3 (r1 _ g1 g2)
  · exact absurd r3 (g2 _ r1 r2)
  · rw [r2, g1]
end RSC
section OPC
variable {S0 S S' : ZS} {g g' d ro la : Nat} {rest : List (Nat × Nat)} {ch : Int → Int} {N p q : Int} {st : PO} {T : TRa} {o : Int32 × ZS} {x1 : Int32}
/-- the class opens a line -/
theorem p_openLine (h : CSt S0 S g g' ch N p st T) (hs : SKs S st T ((ro, la) :: rest)) (hd : rest.length = d) (hd6 : d + 1 ≤ 6) (hx : x1.toInt = ((d + 1 : Nat) : Int)) (hne : la ≠ ro) (hpN : p < N) (hf : f_X2_openLine 23 x1 S = some o) : CSt S0 o.2 g g' ch N (p + 1) st T ∧ SKs o.2 st T (((tP T la).toNat, (tP T la).toNat) :: (ro, la) :: rest) := by
  have hf : f_X2_openLine_0 23 x1 S = some o := hf
  obtain ⟨c, ⟨hg, hX, hF0⟩, l, -, p3, tr, ⟨hw, hl⟩, i5⟩ := id h
  obtain ⟨hT, ⟨k23, p2, k2⟩, ⟨hc, hN1, hn⟩, hcb, h44, hq0⟩ := id l
  have hgr := gg_g hg
  have hx' := c.2.2.1
  have xn : x1.toNatClampNeg = d + 1 := cl_n hx
  obtain ⟨⟨⟨s1, s2⟩, ⟨s3, s4⟩, s5, s6⟩, srest⟩ := id hs
  rw [hd] at s1 s2 s5 s6
  have h300 := hw.1
  have hb := (hw.2.1 la (by omega) s4).1
  have k45 : zK S 45 = 14 := fx_k hx' (by decide) (by decide)
  have k46 : zK S 46 = 14 := fx_k hx' (by decide) (by decide)
  have P8 : zP S 8 23 = some 45 := fx_p hx' (by decide)
  have P9 : zP S 9 23 = some 46 := fx_p hx' (by decide)
  unfold f_X2_openLine_0 at hf
  obtain ⟨-, hf⟩ := m_chkE hf
  replace hf := m_calY hf P8
  obtain ⟨-, hf⟩ := m_chkE hf
  replace hf := m_calY hf p3
  obtain ⟨-, hf⟩ := m_chkE hf
  replace hf := m_calY hf P9
  obtain ⟨v4, e_v4, hf⟩ := m_bndE hf
  have t_v4 : v4.toInt = x1.toInt - 1 := ti_sub e_v4 rfl (show (1 : Int32).toInt = 1 from rfl) (by omega) (by omega)
  obtain ⟨-, hf⟩ := m_chkE hf
  obtain ⟨-, hf⟩ := m_chkE hf
  obtain ⟨v5, e_v5, hf⟩ := m_bndE hf
  have xn4 : v4.toNatClampNeg = d := cl_n (by omega)
  have t5 : v5.toInt = (la : Int) := by rw [e_v5, xn4]; exact s2
  obtain ⟨-, hf⟩ := m_chkE hf
  obtain ⟨r6, h_r6, hf⟩ := m_calR hf (fun _ h => ro_X1_at h)
  dsimp only at hf
  have q6 : r6 = nk S (g + 3) (g + 5) la := by
    have := (p_at c hgr tr (by omega) (by omega) h_r6).2
    rw [t5] at this
    exact this
  have i0 : (zI S 0 r6).toInt = tP T la := by rw [q6]; exact (tr.2.2.2 la s4).1.1
  obtain ⟨-, hf⟩ := m_chkE hf
  obtain ⟨-, hf⟩ := m_chkE hf
  obtain ⟨-, hf⟩ := m_chkE hf
  obtain ⟨S7, e_S7, hf⟩ := m_bndE hf
  rw [xn] at e_S7
  have T7 : ZT S7 := e_S7.symm ▸ zt_A (a := 45) hT k45
  have F7 : FR (fun a => a = 45) S S7 := fr_A hT k45 e_S7
  have X7 := fix_fr hx' F7
  have P97 : zP S7 9 23 = some 46 := fx_p X7 (by decide)
  have P87 : zP S7 8 23 = some 45 := fx_p X7 (by decide)
  have a457 : zA S7 45 (d + 1) = zI S 0 r6 := by
    rw [e_S7]
    show va_up (zA S) 45 (upd (zA S 45) (d + 1) (zI S 0 r6)) 45 (d + 1) = _
    rw [va_up_self, upd_self]
  have a45o : ∀ i, i ≠ d + 1 → zA S7 45 i = zA S 45 i := fun i hi => by
    rw [e_S7]
    show va_up (zA S) 45 (upd (zA S 45) (d + 1) (zI S 0 r6)) 45 i = _
    rw [va_up_self, upd_ne hi]
  have a467 : zA S7 46 = zA S 46 := by
    rw [e_S7]
    show va_up (zA S) 45 (upd (zA S 45) (d + 1) (zI S 0 r6)) 46 = _
    exact va_up_ne _ _ (by decide)
  obtain ⟨-, hf⟩ := m_chkE hf
  replace hf := m_calY hf P97
  obtain ⟨-, hf⟩ := m_chkE hf
  replace hf := m_calY hf P87
  obtain ⟨-, hf⟩ := m_chkE hf
  obtain ⟨-, hf⟩ := m_chkE hf
  obtain ⟨v10, e_v10, hf⟩ := m_bndE hf
  have q10 : v10 = zI S 0 r6 := by rw [e_v10, xn]; exact a457
  obtain ⟨-, hf⟩ := m_chkE hf
  obtain ⟨-, hf⟩ := m_chkE hf
  obtain ⟨S11, e_S11, hf⟩ := m_bndE hf
  rw [xn] at e_S11
  have k467 : zK S7 46 = 14 := fx_k X7 (by decide) (by decide)
  have T11 : ZT S11 := e_S11.symm ▸ zt_A (a := 46) T7 k467
  have F11 : FR (fun a => a = 46) S7 S11 := fr_A T7 k467 e_S11
  have X11 := fix_fr X7 F11
  have a4611 : zA S11 46 (d + 1) = v10 := by
    rw [e_S11]
    show va_up (zA S7) 46 (upd (zA S7 46) (d + 1) v10) 46 (d + 1) = _
    rw [va_up_self, upd_self]
  have a46o : ∀ i, i ≠ d + 1 → zA S11 46 i = zA S7 46 i := fun i hi => by
    rw [e_S11]
    show va_up (zA S7) 46 (upd (zA S7 46) (d + 1) v10) 46 i = _
    rw [va_up_self, upd_ne hi]
  have a4511 : zA S11 45 = zA S7 45 := by
    rw [e_S11]
    show va_up (zA S7) 46 (upd (zA S7 46) (d + 1) v10) 45 = _
    exact va_up_ne _ _ (by decide)
  have FW : FR (fun a => a = 45 ∨ a = 46) S S11 := fr_t (fr_m F7 (fun a _ e => Or.inl e)) (fr_m F11 (fun a _ e => Or.inr e))
  have sk11 := sks_fr (D := d + 1) FW (fun i hi => ⟨by omega, by omega, by omega, by omega⟩) (fun i hi => ⟨by rw [a4511, a45o i (by omega)], by rw [a46o i (by omega), a467]⟩) ((ro, la) :: rest) (by show rest.length + 1 ≤ d + 1; omega) hs
  have P1111 : zP S11 11 23 = some 48 := fx_p X11 (by decide)
  have P1011 : zP S11 10 23 = some 47 := fx_p X11 (by decide)
  have z48 : zB S11 48 x1.toNatClampNeg = some (51+4*(d+1)) := by rw [xn]; exact (X11.2.2.2.2.1 (d + 1) (by omega)).2.1
  have b11 := bo_fr (s6 hne) FW (by omega) (by omega)
  obtain ⟨-, hf⟩ := m_chkE hf
  replace hf := m_calY hf P1111
  obtain ⟨-, hf⟩ := m_chkE hf
  obtain ⟨-, hf⟩ := m_chkE hf
  replace hf := m_calY hf z48
  obtain ⟨-, hf⟩ := m_chkE hf
  replace hf := m_calY hf P1011
  obtain ⟨v15, e_v15, hf⟩ := m_bndE hf
  have t_v15 : v15.toInt = x1.toInt - 1 := ti_sub e_v15 rfl (show (1 : Int32).toInt = 1 from rfl) (by omega) (by omega)
  have xn15 : v15.toNatClampNeg = d := cl_n (by omega)
  have z47 : zB S11 47 v15.toNatClampNeg = some (49+4*d) := by rw [xn15]; exact (X11.2.2.2.2.1 d (by omega)).1
  obtain ⟨-, hf⟩ := m_chkE hf
  obtain ⟨-, hf⟩ := m_chkE hf
  replace hf := m_calY hf z47
  obtain ⟨-, hf⟩ := m_chkE hf
  obtain ⟨⟨r17, S17c⟩, h_r17, hf⟩ := m_calE hf
  dsimp only at hf
  have kb := fx_bk (2 * d + 3) (by omega)
  have e49 : 49 + 2 * (2 * d + 3) = 51 + 4 * (d + 1) := by omega
  have e50 : 50 + 2 * (2 * d + 3) = 52 + 4 * (d + 1) := by omega
  rw [e49, e50] at kb
  have kb1 : zK S11 (51 + 4 * (d + 1)) = 0 := (fx_k X11 (by omega) (by omega)).trans kb.1
  have kb2 : zK S11 (51 + 4 * (d + 1) + 1) = 14 := by
    rw [show 51 + 4 * (d + 1) + 1 = 52 + 4 * (d + 1) by omega]
    exact (fx_k X11 (by omega) (by omega)).trans kb.2
  have pb : zP S11 0 (51 + 4 * (d + 1)) = some (51 + 4 * (d + 1) + 1) := by
    have := X11.2.2.1 (2 * d + 3) (by omega)
    rw [e49, e50] at this
    rw [this, show 51 + 4 * (d + 1) + 1 = 52 + 4 * (d + 1) by omega]
  obtain ⟨T17, F17, B17⟩ := bo_copy T11 kb1 pb kb2 b11 h_r17
  dsimp only at T17 F17 B17
  have X17 := fix_fr X11 F17
  have e45 : zA S17c 45 = zA S11 45 := (fr_e F17 (fx_l X11 (by decide) (by decide)) (by omega)).2.2.2.2.2.1 (by rw [show zK S11 45 = 14 from fx_k X11 (by decide) (by decide)]; decide)
  have e46 : zA S17c 46 = zA S11 46 := (fr_e F17 (fx_l X11 (by decide) (by decide)) (by omega)).2.2.2.2.2.1 (by rw [show zK S11 46 = 14 from fx_k X11 (by decide) (by decide)]; decide)
  have sk17 := sks_fr (D := d + 1) F17 (fun i hi => ⟨by omega, by omega, by omega, by omega⟩) (fun i hi => ⟨by rw [e45], by rw [e46]⟩) ((ro, la) :: rest) (by show rest.length + 1 ≤ d + 1; omega) sk11
  have FW17 : FR (fun a => a = 45 ∨ a = 46 ∨ a = 51 + 4 * (d + 1) ∨ a = 51 + 4 * (d + 1) + 1) S S17c := fr_t (fr_m FW (fun a _ e => by omega)) (fr_m F17 (fun a _ e => by omega))
  have i417 : (zI S17c 4 23).toInt = p := by rw [(fr_e FW17 (by rw [k23]; decide) (by omega)).2.2.1]; exact h44
  obtain ⟨-, hf⟩ := m_chkE hf
  obtain ⟨v18, e_v18, hf⟩ := m_bndE hf
  have t_v18 : v18.toInt = (zI S17c 4 23).toInt + 1 := ti_add e_v18 rfl (show (1 : Int32).toInt = 1 from rfl) (by omega) (by omega)
  obtain ⟨-, hf⟩ := m_chkE hf
  obtain ⟨S19, e_S19, hf⟩ := m_bndE hf
  cases hf
  try dsimp only
  have F19 : FR (fun a => a = 23 ∨ a = 45 ∨ a = 46 ∨ a = 51 + 4 * (d + 1) ∨ a = 51 + 4 * (d + 1) + 1) S S19 := fr_t (fr_m FW17 (fun a _ e => Or.inr e)) (fr_m (fr_I e_S19) (fun a _ e => Or.inl e))
  have k2317 : zK S17c 23 = 2 := (fr_k FW17 (by rw [k23]; decide)).trans k23
  have T19 : ZT S19 := e_S19.symm ▸ zt_I T17 k2317 (by decide) (show (0 : Int) ≤ v18.toInt ∧ v18.toInt ≤ (90100 : Int) by omega)
  have L19 : LW S19 ch N (p + 1) := lw_fr l T19 F19 (by omega) (by rw [e_S19, zI_self]; omega) (by omega)
  refine ⟨cs_rd h L19 (by omega) F19 (fun a e => by unfold WRd; omega), ?_, ?_⟩
  · show SK1 S19 st T (rest.length + 1) _ _
    rw [hd]
    have F9 : FR (fun a => a = 23) S17c S19 := fr_I e_S19
    have n45 : zA S19 45 = zA S17c 45 := by rw [e_S19]; rfl
    have n46 : zA S19 46 = zA S17c 46 := by rw [e_S19]; rfl
    refine ⟨⟨?_, ?_⟩, ⟨Nat.le_refl _, by omega⟩, bo_fr B17 F9 (by omega) (by omega), fun e => absurd rfl e⟩
    · rw [n45, e45, a4511, a457]; omega
    · rw [n46, e46, a4611, q10]; omega
  · exact sks_fr (D := d + 1) (fr_I e_S19) (fun i hi => ⟨by omega, by omega, by omega, by omega⟩) (fun i hi => ⟨by rw [e_S19]; rfl, by rw [e_S19]; rfl⟩) ((ro, la) :: rest) (by show rest.length + 1 ≤ d + 1; omega) sk17
end OPC
