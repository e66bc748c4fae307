/-- the tags of the class's game g -/
noncomputable def TGk (S : ZS) (g : Nat) (L : List (List Int × List Int)) : Prop := (zI S 5 g).toInt = (L.length : Int) ∧ L.length ≤ 8 ∧ ∀ i : Nat, i < L.length → ∃ t, zB S (g + 6) i = some t ∧ RWL S (t + 1) (nmL L (i : Int)) ∧ RWL S (t + 2) (vlL L (i : Int))
/-- the cells of a game's tags -/
noncomputable def TGf (S : ZS) (g a : Nat) : Prop := a = g ∨ a = g + 6 ∨ ∃ i t, zB S (g + 6) i = some t ∧ (a = t + 1 ∨ a = t + 2)
section TGP
variable {S S' : ZS} {g g' : Nat} {L : List (List Int × List Int)} {u w : List Int} {o : Int32 × ZS} {x1 : Int32}
theorem tgk_c (hC : CG S) (hg : g = 35 ∨ g = 99) (h : TGk S g L) : TGc S g L := by
  obtain ⟨h1, h2, h3⟩ := h
  refine ⟨h1, h2, g + 6, (fx_g hC.2.2.1 hg).1.2.2.2.2.1, fun i i0 i1 => ?_⟩
  obtain ⟨t, t1, t2, t3⟩ := h3 i.toNat (by omega)
  obtain ⟨-, -, a3, a4, -⟩ := (gm_of hC hg).2 _ _ t1
  have e : ((i.toNat : Nat) : Int) = i := by omega
  rw [e] at t2 t3
  exact ⟨t, t + 1, t + 2, t1, a3, a4, t2, t3⟩
theorem tgk_fr {W : Nat → Prop} (hC : CG S) (hg : g = 35 ∨ g = 99) (h : TGk S g L) (hF : FR W S S') (h5 : zI S' 5 g = zI S 5 g) (h6 : ¬ W (g + 6)) (ht : ∀ i t, zB S (g + 6) i = some t → ¬ W (t + 1) ∧ ¬ W (t + 2)) : TGk S' g L := by
  obtain ⟨h1, h2, h3⟩ := h
  refine ⟨by rw [h5]; exact h1, h2, fun i hi => ?_⟩
  obtain ⟨t, t1, t2, t3⟩ := h3 i hi
  obtain ⟨-, -, -, -, a5, a6⟩ := (gm_of hC hg).2 _ _ t1
  have k6 := (fx_g hC.2.2.1 hg).2.1.2.2.2.2.2.1
  have eb := (fr_e hF (by rw [k6]; decide) h6).2.2.2.2.1
  exact ⟨t, by rw [eb]; exact t1, eqc_rl (fr_e hF (by rw [a5]; decide) (ht i t t1).1) a5 t2, eqc_rl (fr_e hF (by rw [a6]; decide) (ht i t t1).2) a6 t3⟩
/-- the tag at a place -/
theorem p_tagC {gm ar t r : Nat} (hP : zP S 4 gm = some ar) (hi : 0 ≤ x1.toInt ∧ x1.toInt < (zI S 5 gm).toInt) (g1 : zB S ar x1.toInt.toNat = some t) (hf : d_X1_tagAt gm x1 S = some (r, S')) : S' = S ∧ r = t := by
  have hf : d_X1_tagAt_0 gm x1 S = some (r, S') := hf
  have z0 : (0 : Int32).toInt = 0 := rfl
  unfold d_X1_tagAt_0 at hf
  rcases m_ifE hf with ⟨c1, hf⟩ | ⟨c1, hf⟩
  · replace c1 := ti_ltP (a := x1) (b := (0 : Int32)) c1 rfl rfl
    omega
  · obtain ⟨-, hf⟩ := m_chkE hf
    rcases m_ifE hf with ⟨c2, hf⟩ | ⟨c2, hf⟩
    · replace c2 := ti_leP (a := zI S 5 gm) (b := x1) c2 rfl rfl
      omega
    · obtain ⟨-, hf⟩ := m_chkE hf
      replace hf := m_calY hf hP
      obtain ⟨-, hf⟩ := m_chkE hf
      obtain ⟨-, hf⟩ := m_chkE hf
      obtain ⟨v2, e2, hf⟩ := m_bndE hf
      have e3 : v2 = some t := by rw [e2]; exact g1
      unfold d_X1_tagAt_22 at hf
      rcases m_optE hf with ⟨n1, hf⟩ | ⟨b1, n1, hf⟩
      · rw [n1] at e3; cases e3
      · rw [n1] at e3
        cases e3
        unfold d_X1_tagAt_38 at hf
        replace hf := m_calY hf rfl
        cases hf
        exact ⟨rfl, rfl⟩
/-- room for a tag more: c -/
noncomputable def GXt (S SX : ZS) (g c n : Nat) : Prop := (zB SX (g + 6) n = some c ∧ (∀ i, i ≠ n → zB SX (g + 6) i = zB S (g + 6) i)) ∧ FR (fun a => a = g + 6) S SX ∧ (zB S (g + 6) n = some c ∨ 18 ≤ zK S c ∧ 18 ≤ zK S (c + 1) ∧ 18 ≤ zK S (c + 2)) ∧ (109 ≤ c ∧ zK SX c = 10 ∧ zP SX 0 c = some (c + 1) ∧ zP SX 1 c = some (c + 2) ∧ zK SX (c + 1) = 6 ∧ zK SX (c + 2) = 6) ∧ ZT SX
theorem pt_0 {x1 x2 : Nat} (hC : CG S) (hg : g = 35 ∨ g = 99) (h : TGk S g L) (hl : L.length < 8) (hf : d_X1_putTag g x1 x2 S = some o) : ∃ SX c, GXt S SX g c L.length ∧ d_X1_putTag_38 g x1 x2 SX = some o := by
  obtain ⟨⟨kg, p0, p1, p2, p4, p7⟩, ⟨k1, k2', k3, k4, k5, k6, k7⟩, -⟩ := fx_g hC.2.2.1 hg
  have hT := hC.1
  have h1 := h.1
  have hf : d_X1_putTag_0 g x1 x2 S = some o := hf
  have ix : (zI S 5 g).toNatClampNeg = L.length := cl_n h1
  have T0 : 18 ≤ zK S (zt S) := hT.2.2.2.2.1 _ (Nat.le_refl _)
  have T1 : 18 ≤ zK S (zt S + 1) := hT.2.2.2.2.1 _ (by omega)
  have T2 : 18 ≤ zK S (zt S + 2) := hT.2.2.2.2.1 _ (by omega)
  unfold d_X1_putTag_0 at hf
  obtain ⟨-, hf⟩ := m_chkE hf
  rcases m_ifE hf with ⟨c1, hf⟩ | ⟨c1, hf⟩
  · skip
    replace c1 := ti_ltP (a := (zI S 5 g)) (b := (8 : Int32)) c1 rfl (show (8 : Int32).toInt = 8 from rfl)
    obtain ⟨-, hf⟩ := m_chkE hf
    replace hf := m_calY hf p4
    obtain ⟨-, hf⟩ := m_chkE hf
    obtain ⟨-, hf⟩ := m_chkE hf
    obtain ⟨-, hf⟩ := m_chkE hf
    obtain ⟨v2, e_v2, hf⟩ := m_bndE hf
    rw [ix] at e_v2 hf
    rcases m_optE hf with ⟨n_b3, hf⟩ | ⟨b3, h_b3, hf⟩
    · skip
      rw [n_b3] at e_v2
      obtain ⟨-, hf⟩ := m_chkE hf
      replace hf := m_calY hf p4
      obtain ⟨-, hf⟩ := m_chkE hf
      obtain ⟨q5, e_q5, hf⟩ := m_bndE hf
      obtain ⟨S6, e_S6, hf⟩ := m_bndE hf
      rw [e_q5] at e_S6 hf
      rw [e_S6] at hf
      obtain ⟨⟨r10, S11⟩, h_r10, hf⟩ := m_cal2E hf
      dsimp only at hf
      rw [init10 S] at h_r10
      cases h_r10
      obtain ⟨-, hf⟩ := m_chkE hf
      obtain ⟨-, hf⟩ := m_chkE hf
      obtain ⟨-, hf⟩ := m_chkE hf
      obtain ⟨S14, e_S14, hf⟩ := m_bndE hf
      obtain ⟨TX, -⟩ := rp_tag (i := L.length) hT k6 e_v2.symm (by omega)
      obtain ⟨f1, f2, f3, f4, ⟨f5, -⟩, ⟨f6, -⟩, f7, f8, -⟩ := tg_f S
      obtain ⟨g1, g2, g3, -⟩ := tg_e S
      have nN : ∀ a, zK S a < 18 → ¬ (a = zt S ∨ a = zt S + 1 ∨ a = zt S + 2) := fun a ha e => by
        have := hT.2.2.2.2.1 a (by omega)
        omega
      have KX : ∀ a, zK S a < 18 → zK S14 a = zK S a := fun a ha => by
        rw [e_S14]
        show zK (zTg S) a = _
        exact f1 a (nN a ha)
      have BX : ∀ a, a ≠ g + 6 → zB S14 a = zB S a := fun a ha => by
        rw [e_S14]
        show va_up (zB (zTg S)) (g + 6) _ a = _
        rw [va_up_ne _ _ ha, g3]
      refine ⟨S14, zt S, ⟨⟨?_, fun i hi => ?_⟩, fun a ha => ?_, Or.inr ⟨T0, T1, T2⟩, ⟨hT.2.2.2.2.2.2.2.2.2.2.1, ?_, ?_, ?_, ?_, ?_⟩, by rw [e_S14]; exact TX⟩, hf⟩
      · rw [e_S14]
        show va_up (zB (zTg S)) (g + 6) (va_up (zB (zTg S) (g + 6)) L.length (some (zt S))) (g + 6) L.length = _
        rw [va_up_self, va_up_self]
      · rw [e_S14]
        show va_up (zB (zTg S)) (g + 6) (va_up (zB (zTg S) (g + 6)) L.length (some (zt S))) (g + 6) i = _
        rw [va_up_self, va_up_ne _ _ hi, g3]
      · have IX' : ∀ j, zI S14 j a = zI S j a := fun j => by
          rw [e_S14]
          show zI (zTg S) j a = _
          exact f2 a j (nN a ha)
        have PX : ∀ j, zP S14 j a = zP S j a := fun j => by
          rw [e_S14]
          show zP (zTg S) j a = _
          exact f3 a j (nN a ha)
        have NX : zN S14 a = zN S a := by
          rw [e_S14]
          show zN (zTg S) a = _
          rw [g1]
        have AX : ∀ a, zA S14 a = zA S a := fun a => by
          rw [e_S14]
          show zA (zTg S) a = _
          rw [g2]
        exact ⟨⟨KX a ha, NX, fun _ j => PX j, fun k15 => BX a (fun e => by rw [e, k6] at k15; omega)⟩, fun hw => ⟨KX a ha, NX, IX', PX, BX a hw, fun _ => AX a, fun _ c _ => AX c⟩⟩
      · rw [e_S14]; exact f4
      · rw [e_S14]; exact f7
      · rw [e_S14]; exact f8
      · rw [e_S14]; exact f5
      · rw [e_S14]; exact f6
    · skip
      rw [h_b3] at e_v2
      obtain ⟨a1, a2, a3, a4, a5, a6⟩ := (gm_of hC hg).2 _ _ e_v2.symm
      exact ⟨S, b3, ⟨⟨e_v2.symm, fun i _ => rfl⟩, fr_0, Or.inl e_v2.symm, ⟨a1, a2, a3, a4, a5, a6⟩, hT⟩, hf⟩
  · skip
    replace c1 := ti_ltN (a := (zI S 5 g)) (b := (8 : Int32)) c1 rfl (show (8 : Int32).toInt = 8 from rfl)
    cases hf
    try dsimp only
    have z8 : (8 : Int32).toInt = 8 := rfl
    omega
/-- the name and the value come into the tag c -/
theorem pt_38 {SX : ZS} {c : Nat} (hC : CG S) (hg : GG g g') (h : TGk S g L) (hl : L.length < 8) (hX : GXt S SX g c L.length) (hu : RWL S 43 u) (hw : RWL S 44 w) (lu : u.length ≤ 12) (lw : w.length ≤ 96) (cu : ∀ i, 0 ≤ wA u i ∧ wA u i ≤ 65535) (cw : ∀ i, 0 ≤ wA w i ∧ wA w i ≤ 65535) (hf : d_X1_putTag_38 g 43 44 SX = some o) : RWL o.2 (c + 1) u ∧ RWL o.2 (c + 2) w ∧ (zI o.2 5 g).toInt = (L.length : Int) + 1 ∧ FR (fun a => a = g ∨ a = c + 1 ∨ a = c + 2) SX o.2 ∧ ∀ j, j ≠ 5 → zI o.2 j g = zI SX j g := by
  obtain ⟨⟨kg, p0, p1, p2, p4, p7⟩, ⟨k1, k2', k3, k4, k5, k6, k7⟩, -⟩ := fx_g hC.2.2.1 (gg_g hg)
  obtain ⟨⟨b1, b2⟩, FX, old, ⟨c1, c2, c3, c4, c5, c6⟩, TX⟩ := hX
  have gb : g = 35 ∨ g = 99 := gg_g hg
  have k43 : zK S 43 = 6 := fx_k hC.2.2.1 (by decide) (by decide)
  have k44 : zK S 44 = 6 := fx_k hC.2.2.1 (by decide) (by decide)
  have huX := eqc_rl (fr_e FX (by rw [k43]; decide) (show ¬ 43 = g + 6 by omega)) k43 hu
  have hwX := eqc_rl (fr_e FX (by rw [k44]; decide) (show ¬ 44 = g + 6 by omega)) k44 hw
  have k43X : zK SX 43 = 6 := (fr_k FX (by rw [k43]; decide)).trans k43
  have k44X : zK SX 44 = 6 := (fr_k FX (by rw [k44]; decide)).trans k44
  have kgX : zK SX g = 1 := (fr_k FX (by rw [kg]; decide)).trans kg
  have k6X : zK SX (g + 6) = 17 := (fr_k FX (by rw [k6]; decide)).trans k6
  have eg := fr_e FX (by rw [kg]; decide) (show ¬ g = g + 6 by omega)
  have i5 : (zI SX 5 g).toInt = (L.length : Int) := by rw [eg.2.2.1]; exact h.1
  have p4X : zP SX 4 g = some (g + 6) := (eg.2.2.2.1 4).trans p4
  have z0 : (0 : Int32).toInt = 0 := rfl
  unfold d_X1_putTag_38 at hf
  obtain ⟨-, hf⟩ := m_chkE hf
  obtain ⟨v1, e_v1, hf⟩ := m_bndE hf
  have t_v1 : v1.toInt = (zI SX 5 g).toInt + 1 := ti_add e_v1 rfl (show (1 : Int32).toInt = 1 from rfl) (by omega) (by omega)
  obtain ⟨-, hf⟩ := m_chkE hf
  obtain ⟨S2, e_S2, hf⟩ := m_bndE hf
  have T2 : ZT S2 := e_S2.symm ▸ zt_T1 TX kgX (by omega) (by omega) (fun b hb => by
    rw [p4X] at hb
    cases hb
    exact ⟨c, by rw [cl_n i5]; exact b1⟩)
  have F2 : FR (fun a => a = g) SX S2 := fr_I e_S2
  have j5 : (zI S2 5 g).toInt = (L.length : Int) + 1 := by rw [e_S2, zI_self]; omega
  have q4 : zP S2 4 g = some (g + 6) := by rw [e_S2]; exact p4X
  have kc2 : zK S2 c = 10 := by rw [e_S2]; exact c2
  have kr2 : zK S2 (c + 1) = 6 := by rw [e_S2]; exact c5
  have kw2 : zK S2 (c + 2) = 6 := by rw [e_S2]; exact c6
  have pc2 : zP S2 0 c = some (c + 1) := by rw [e_S2]; exact c3
  have pd2 : zP S2 1 c = some (c + 2) := by rw [e_S2]; exact c4
  have hu2 := eqc_rl (fr_e F2 (by rw [k43X]; decide) (show ¬ 43 = g by omega)) k43X huX
  have hw2 := eqc_rl (fr_e F2 (by rw [k44X]; decide) (show ¬ 44 = g by omega)) k44X hwX
  have k432 : zK S2 43 = 6 := by rw [e_S2]; exact k43X
  have k442 : zK S2 44 = 6 := by rw [e_S2]; exact k44X
  obtain ⟨-, hf⟩ := m_chkE hf
  obtain ⟨v3, e_v3, hf⟩ := m_bndE hf
  have t_v3 : v3.toInt = (zI S2 5 g).toInt - 1 := ti_sub e_v3 rfl (show (1 : Int32).toInt = 1 from rfl) (by omega) (by omega)
  obtain ⟨-, hf⟩ := m_chkE hf
  obtain ⟨⟨r5, S6⟩, h_r5, hf⟩ := m_cal2E hf
  dsimp only at hf
  obtain ⟨e6, q5⟩ := p_tagC q4 ⟨by omega, by omega⟩ (by rw [e_S2, show v3.toInt.toNat = L.length by omega]; exact b1) h_r5
  rw [e6, q5] at hf
  obtain ⟨-, hf⟩ := m_chkE hf
  replace hf := m_calY hf pc2
  obtain ⟨-, hf⟩ := m_chkE hf
  obtain ⟨⟨r11, S12⟩, h_r11, hf⟩ := m_cal2E hf
  dsimp only at hf
  obtain ⟨r, hr⟩ := rwl_ex T2 kr2
  obtain ⟨T12, F12, R12⟩ := p_copyFrom T2 (show (43 : Nat) ≠ c + 1 by omega) (by rw [rc_new (show 109 ≤ c + 1 by omega)]; decide) (by omega) cu hu2 kr2 k432 (by rw [hr.1]; omega) h_r11
  dsimp only at T12 F12 R12
  have G12 := fr_r F12 kr2
  have eg12 := fr_e G12 (show zK S2 g < 18 by rw [e_S2]; show zK SX g < 18; rw [kgX]; decide) (show ¬ g = c + 1 by omega)
  have ec12 := fr_e G12 (show zK S2 c < 18 by rw [kc2]; decide) (show ¬ c = c + 1 by omega)
  have e6 := fr_e G12 (show zK S2 (g + 6) < 18 by rw [e_S2]; show zK SX (g + 6) < 18; rw [k6X]; decide) (show ¬ g + 6 = c + 1 by omega)
  have hw12 := eqc_rl (fr_e G12 (by rw [k442]; decide) (show ¬ 44 = c + 1 by omega)) k442 hw2
  have kw12 := (fr_k G12 (by rw [kw2]; decide)).trans kw2
  have k4412 := (fr_k G12 (by rw [k442]; decide)).trans k442
  have i512 : (zI S12 5 g).toInt = (L.length : Int) + 1 := by rw [eg12.2.2.1]; exact j5
  have pd12 : zP S12 1 c = some (c + 2) := (ec12.2.2.2.1 1).trans pd2
  obtain ⟨-, hf⟩ := m_chkE hf
  obtain ⟨v15, e_v15, hf⟩ := m_bndE hf
  have t_v15 : v15.toInt = (zI S12 5 g).toInt - 1 := ti_sub e_v15 rfl (show (1 : Int32).toInt = 1 from rfl) (by omega) (by omega)
  obtain ⟨-, hf⟩ := m_chkE hf
  obtain ⟨⟨r17, S18⟩, h_r17, hf⟩ := m_cal2E hf
  dsimp only at hf
  obtain ⟨e18, q17⟩ := p_tagC (t := c) ((eg12.2.2.2.1 4).trans q4) ⟨by omega, by omega⟩ (by rw [e6.2.2.2.2.1, e_S2, show v15.toInt.toNat = L.length by omega]; exact b1) h_r17
  rw [e18, q17] at hf
  obtain ⟨-, hf⟩ := m_chkE hf
  replace hf := m_calY hf pd12
  obtain ⟨-, hf⟩ := m_chkE hf
  obtain ⟨⟨r23, S24⟩, h_r23, hf⟩ := m_cal2E hf
  dsimp only at hf
  obtain ⟨r', hr'⟩ := rwl_ex T12 kw12
  obtain ⟨T24, F24, R24⟩ := p_copyFrom T12 (show (44 : Nat) ≠ c + 2 by omega) (by rw [rc_new (show 109 ≤ c + 2 by omega)]; decide) (by omega) cw hw12 kw12 k4412 (by rw [hr'.1]; omega) h_r23
  dsimp only at T24 F24 R24
  have G24 := fr_r F24 kw12
  cases hf
  try dsimp only
  have kg12 : zK S12 g < 18 := by rw [eg12.1, e_S2]; show zK SX g < 18; rw [kgX]; decide
  have eg24 := fr_e G24 kg12 (show ¬ g = c + 2 by omega)
  have kr12 : zK S12 (c + 1) = 6 := (fr_k G12 (by rw [kr2]; decide)).trans kr2
  refine ⟨eqc_rl (fr_e G24 (by rw [kr12]; decide) (show ¬ c + 1 = c + 2 by omega)) kr12 R12, R24, ?_, fr_t (fr_m F2 (fun a _ e => Or.inl e)) (fr_t (fr_m G12 (fun a _ e => Or.inr (Or.inl e))) (fr_m G24 (fun a _ e => Or.inr (Or.inr e)))), fun j hj => ?_⟩
  · show (zI S24 5 g).toInt = _
    rw [eg24.2.2.1, eg12.2.2.1]; exact j5
  · show zI S24 j g = _
    rw [eg24.2.2.1, eg12.2.2.1, e_S2]; exact zI_j hj
/-- a tag more -/
theorem p_putTag (hC : CG S) (hg : GG g g') (h : TGk S g L) (hl : L.length < 8) (hu : RWL S 43 u) (hw : RWL S 44 w) (lu : u.length ≤ 12) (lw : w.length ≤ 96) (cu : ∀ i, 0 ≤ wA u i ∧ wA u i ≤ 65535) (cw : ∀ i, 0 ≤ wA w i ∧ wA w i ≤ 65535) (hf : d_X1_putTag g 43 44 S = some o) : CG o.2 ∧ TGk o.2 g (L ++ [(u, w)]) ∧ FR (TGf S g) S o.2 ∧ ∀ j, j ≠ 5 → zI o.2 j g = zI S j g := by
  have hgr := gg_g hg
  have hX := hC.2.2.1
  obtain ⟨⟨kg, p0, p1, p2, p4, p7⟩, ⟨k1, k2', k3, k4, k5, k6, k7⟩, -⟩ := fx_g hX hgr
  have hb : (g = 35 ∧ g' = 99) ∨ (g = 99 ∧ g' = 35) := hg
  have k43 : zK S 43 = 6 := fx_k hX (by decide) (by decide)
  have k44 : zK S 44 = 6 := fx_k hX (by decide) (by decide)
  obtain ⟨T', R', -⟩ := ok_of (t_d_X1_putTag (SZ := S) hC.1 (rp_0 S) kg k43 k44 (by rw [hu.1]; omega) (by rw [hw.1]; omega) (by decide)) hf
  have Z' : TZ o.2 := R'.2.1 hC.2.1
  obtain ⟨SX, c, GX, hf2⟩ := pt_0 hC hgr h hl hf
  obtain ⟨r1, r2, i5, FO, iO⟩ := pt_38 hC hg h hl GX hu hw lu lw cu cw hf2
  obtain ⟨⟨b1, b2⟩, FX, old, ⟨c1, c2, c3, c4, c5, c6⟩, TX⟩ := GX
  have G := gm_of hC hgr
  have FA : FR (fun a => a = g ∨ a = g + 6 ∨ a = c + 1 ∨ a = c + 2) S o.2 := fr_t (fr_m FX (fun a _ e => Or.inr (Or.inl e))) (fr_m FO (fun a _ e => by omega))
  have FT : FR (TGf S g) S o.2 := fr_m FA (fun a ha e => by
    rcases e with e | e | e | e
    · exact Or.inl e
    · exact Or.inr (Or.inl e)
    · rcases old with oo | oo
      · exact Or.inr (Or.inr ⟨_, c, oo, Or.inl e⟩)
      · rw [e] at ha; omega
    · rcases old with oo | oo
      · exact Or.inr (Or.inr ⟨_, c, oo, Or.inr e⟩)
      · rw [e] at ha; omega)
  have eB : ∀ a, zK S a < 18 → a ≠ g → a ≠ g + 6 → a ≠ c + 1 → a ≠ c + 2 → zB o.2 a = zB S a := fun a ha n1 n2 n3 n4 => (fr_e FA ha (by omega)).2.2.2.2.1
  have k6X : zK SX (g + 6) = 17 := (fr_k FX (by rw [k6]; decide)).trans k6
  have eB6 : zB o.2 (g + 6) = zB SX (g + 6) := (fr_e FO (by rw [k6X]; decide) (by omega)).2.2.2.2.1
  have kc' : zK o.2 c = 10 ∧ zP o.2 0 c = some (c + 1) ∧ zP o.2 1 c = some (c + 2) ∧ zK o.2 (c + 1) = 6 ∧ zK o.2 (c + 2) = 6 := by
    have q := (FO c (by rw [c2]; decide)).1
    exact ⟨q.1.trans c2, (q.2.2.1 (by rw [c2]; rfl) 0).trans c3, (q.2.2.1 (by rw [c2]; rfl) 1).trans c4, (fr_k FO (by rw [c5]; decide)).trans c5, (fr_k FO (by rw [c6]; decide)).trans c6⟩
  have inj : ∀ i, i ≠ L.length → ∀ t, zB S (g + 6) i = some t → t ≠ c := fun i hi t ht e => by
    rcases old with oo | oo
    · rw [e] at ht
      exact hi ((hC.2.2.2.2.2 g g' hg i c ht).1 _ oo).symm
    · have := (G.2 i t ht).2.1
      rw [e] at this
      omega
  have Gg : GM o.2 g := by
    refine ⟨fun i z hz => ?_, fun i z hz => ?_⟩
    · rw [eB (g + 5) (by rw [k5]; decide) (by omega) (by omega) (by omega) (by omega)] at hz
      obtain ⟨d1, d2, d3, d4⟩ := G.1 i z hz
      exact ⟨d1, (fr_k FA (by rw [d2]; decide)).trans d2, ((FA z (by rw [d2]; decide)).1.2.2.1 (by rw [d2]; rfl) 6).trans d3, (fr_k FA (by rw [d4]; decide)).trans d4⟩
    · rw [eB6] at hz
      by_cases e : i = L.length
      · rw [e, b1] at hz
        cases hz
        exact ⟨c1, kc'⟩
      · rw [b2 i e] at hz
        obtain ⟨d1, d2, d3, d4, d5, d6⟩ := G.2 i z hz
        have q := (FA z (by rw [d2]; decide)).1.2.2.1 (by rw [d2]; rfl)
        exact ⟨d1, (fr_k FA (by rw [d2]; decide)).trans d2, (q 0).trans d3, (q 1).trans d4, (fr_k FA (by rw [d5]; decide)).trans d5, (fr_k FA (by rw [d6]; decide)).trans d6⟩
  obtain ⟨⟨kg', -⟩, ⟨-, -, -, -, k5', k6', -⟩, -⟩ := fx_g hX (gg_g (gg_s hg))
  have e5' := eB (g' + 5) (by rw [k5']; decide) (by omega) (by omega) (by omega) (by omega)
  have e6' := eB (g' + 6) (by rw [k6']; decide) (by omega) (by omega) (by omega) (by omega)
  have Gg' : GM o.2 g' := gm_fr hX (gg_g (gg_s hg)) (gm_of hC (gg_g (gg_s hg))) FA e5' e6'
  have tdx := hC.2.2.2.2.2
  have nO : ∀ j, zB S (g' + 6) j ≠ some c := fun j e => by
    rcases old with oo | oo
    · exact (tdx g g' hg _ c oo).2 j e
    · have := ((gm_of hC (gg_g (gg_s hg))).2 j c e).2.1
      omega
  have TD : TDX o.2 := by
    have one : ∀ i a, zB o.2 (g + 6) i = some a → (∀ j, zB o.2 (g + 6) j = some a → j = i) ∧ ∀ j, zB o.2 (g' + 6) j ≠ some a := fun i a ha => by
      rw [eB6] at ha ⊢
      rw [e6']
      by_cases e : i = L.length
      · rw [e, b1] at ha
        cases ha
        refine ⟨fun j hj => ?_, nO⟩
        by_cases e2 : j = L.length
        · rw [e2, e]
        · rw [b2 j e2] at hj
          exact absurd rfl (inj j e2 _ hj)
      · rw [b2 i e] at ha
        refine ⟨fun j hj => ?_, (tdx g g' hg i a ha).2⟩
        by_cases e2 : j = L.length
        · rw [e2, b1] at hj
          cases hj
          exact absurd rfl (inj i e _ ha)
        · rw [b2 j e2] at hj
          exact (tdx g g' hg i a ha).1 j hj
    have two : ∀ i a, zB o.2 (g' + 6) i = some a → (∀ j, zB o.2 (g' + 6) j = some a → j = i) ∧ ∀ j, zB o.2 (g + 6) j ≠ some a := fun i a ha => by
      refine ⟨fun j hj => ?_, fun j hj => (one j a hj).2 i ha⟩
      rw [e6'] at ha hj
      exact (tdx g' g (gg_s hg) i a ha).1 j hj
    intro q q' hq
    have hq2 : (q = 35 ∧ q' = 99) ∨ (q = 99 ∧ q' = 35) := hq
    by_cases e : q = g
    · have e2 : q' = g' := by omega
      rw [e, e2]; exact one
    · have e1 : q = g' := by omega
      have e2 : q' = g := by omega
      rw [e1, e2]; exact two
  have CG' : CG o.2 := by
    refine ⟨T', Z', fix_fr hX FA, ?_, ?_, TD⟩
    · rcases hb with ⟨e, e2⟩ | ⟨e, e2⟩
      · rw [e] at Gg; exact Gg
      · rw [e2] at Gg'; exact Gg'
    · rcases hb with ⟨e, e2⟩ | ⟨e, e2⟩
      · rw [e2] at Gg'; exact Gg'
      · rw [e] at Gg; exact Gg
  have egS := fr_e FX (by rw [kg]; decide) (show ¬ g = g + 6 by omega)
  have len : ((L ++ [(u, w)]).length : Int) = (L.length : Int) + 1 := by rw [List.length_append]; rfl
  refine ⟨CG', ⟨by rw [i5, len], by omega, fun i hi => ?_⟩, FT, fun j hj => by rw [iO j hj, egS.2.2.1]⟩
  by_cases e : i = L.length
  · rw [e, eB6, nmL_n.1, nmL_n.2]
    exact ⟨c, b1, r1, r2⟩
  · have hi2 : i < L.length := by omega
    obtain ⟨n1, n2⟩ := nmL_o (L := L) (u := u) (w := w) (i := (i : Int)) (by omega) (by omega)
    rw [n1, n2, eB6, b2 i e]
    obtain ⟨t, t1, t2, t3⟩ := h.2.2 i hi2
    obtain ⟨d1, d2, d3, d4, d5, d6⟩ := G.2 i t t1
    have ntc := inj i e t t1
    have x1 : t + 1 ≠ c := fun e => by
      rcases old with oo | oo
      · have := (G.2 _ _ oo).2.1; rw [← e, d5] at this; omega
      · rw [← e, d5] at oo; omega
    have x2 : t ≠ c + 1 := fun e => by
      rcases old with oo | oo
      · have := (G.2 _ _ oo).2.2.2.2.1; rw [← e, d2] at this; omega
      · rw [← e, d2] at oo; omega
    exact ⟨t, t1, eqc_rl (fr_e FA (by rw [d5]; decide) (by omega)) d5 t2, eqc_rl (fr_e FA (by rw [d6]; decide) (by omega)) d6 t3⟩
end TGP
