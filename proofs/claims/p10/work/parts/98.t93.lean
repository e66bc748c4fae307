section GRZ
variable {S S' : ZS} {g g' n : Nat} {o : Int32 × ZS} {x1 x2 x3 : Int32}
/-- room for a node more, without a tree -/
theorem gz_64 (hT : ZT S) (hx : CGx S) (hg : g = 35 ∨ g = 99) (h : cn S g = n) (hn : n < 300) (hf : d_X1_grow_64 g x1 x2 x3 S = some o) : ∃ SX c, GXn S SX g c (n) ∧ d_X1_grow_102 g x1 x2 x3 SX = some o := by
  obtain ⟨⟨kg, p0, p1, p2, p4, p7⟩, ⟨k1, k2', k3, k4, k5, k6, k7⟩, -⟩ := fx_g hx.1 hg
  have hc := cn_le hT kg
  rw [h] at hc
  have G := (cgx_g hx hg).1
  unfold d_X1_grow_64 at hf
  obtain ⟨-, hf⟩ := m_chkE hf
  obtain ⟨v1, e_v1, hf⟩ := m_bndE hf
  have t_v1 : v1.toInt = (zI S 3 g).toInt + 1 := ti_add e_v1 rfl (show (1 : Int32).toInt = 1 from rfl) (by omega) (by omega)
  obtain ⟨-, hf⟩ := m_chkE hf
  obtain ⟨S2, e_S2, hf⟩ := m_bndE hf
  have T2 : ZT S2 := e_S2.symm ▸ zt_I hT kg (by decide) (show (0 : Int) ≤ v1.toInt ∧ v1.toInt ≤ (300 : Int) by omega)
  have kk : zK S2 = zK S := by rw [e_S2]; rfl
  have pp : zP S2 = zP S := by rw [e_S2]; rfl
  have bb : zB S2 = zB S := by rw [e_S2]; rfl
  have i2 : zI S2 3 g = v1 := by rw [e_S2]; exact zI_self _ _ _ _
  have P2 : zP S2 2 g = some (g + 5) := by rw [pp]; exact p2
  have ix : (zI S2 3 g).toNatClampNeg = n + 1 := by rw [i2]; exact cl_n (by omega)
  have F2 : FR (fun a => a = g) S S2 := fr_I e_S2
  rw [ix] at hf
  obtain ⟨-, hf⟩ := m_chkE hf
  replace hf := m_calY hf P2
  obtain ⟨-, hf⟩ := m_chkE hf
  obtain ⟨-, hf⟩ := m_chkE hf
  obtain ⟨-, hf⟩ := m_chkE hf
  obtain ⟨v4, e_v4, hf⟩ := m_bndE hf
  rw [bb] at e_v4
  rcases m_optE hf with ⟨n_b5, hf⟩ | ⟨b5, h_b5, hf⟩
  · skip
    rw [n_b5] at e_v4
    have T0 : 18 ≤ zK S2 (zt S2) := T2.2.2.2.2.1 _ (Nat.le_refl _)
    have T1 : 18 ≤ zK S2 (zt S2 + 1) := T2.2.2.2.2.1 _ (by omega)
    obtain ⟨-, hf⟩ := m_chkE hf
    replace hf := m_calY hf P2
    obtain ⟨-, hf⟩ := m_chkE hf
    obtain ⟨q7, e_q7, hf⟩ := m_bndE hf
    obtain ⟨S8, e_S8, hf⟩ := m_bndE hf
    rw [e_q7] at e_S8 hf
    rw [e_S8] at hf
    obtain ⟨⟨r12, S13⟩, h_r12, hf⟩ := m_cal2E hf
    dsimp only at hf
    rw [init4 S2] at h_r12
    cases h_r12
    obtain ⟨-, hf⟩ := m_chkE hf
    obtain ⟨-, hf⟩ := m_chkE hf
    obtain ⟨-, hf⟩ := m_chkE hf
    obtain ⟨S16, e_S16, hf⟩ := m_bndE hf
    have hz : zB S2 (g + 5) (n + 1) = none := by rw [bb]; exact e_v4.symm
    have kb2 : zK S2 (g + 5) = 16 := by rw [kk]; exact k5
    obtain ⟨TX, -⟩ := rm_node (i := n + 1) T2 kb2 hz (by omega)
    obtain ⟨f1, f2, f3, f4, f5⟩ := nd_f S2
    obtain ⟨g1, g2, g3, -⟩ := nd_e S2
    have nN : ∀ a, zK S a < 18 → ¬ (a = zt S2 ∨ a = zt S2 + 1) := fun a ha e => by
      have := T2.2.2.2.2.1 a (by omega)
      rw [kk] at this
      omega
    have KX : ∀ a, zK S a < 18 → zK S16 a = zK S a := fun a ha => by
      rw [e_S16]
      show zK (zNd S2) a = _
      rw [f1 a (nN a ha), kk]
    have BX : ∀ a, a ≠ g + 5 → zB S16 a = zB S a := fun a ha => by
      rw [e_S16]
      show va_up (zB (zNd S2)) (g + 5) _ a = _
      rw [va_up_ne _ _ ha, g3, bb]
    have IX' : ∀ a j, zK S a < 18 → zI S16 j a = zI S2 j a := fun a j ha => by
      rw [e_S16]
      show zI (zNd S2) j a = _
      rw [f2 a j (nN a ha)]
    have PX : ∀ a j, zK S a < 18 → zP S16 j a = zP S j a := fun a j ha => by
      rw [e_S16]
      show zP (zNd S2) j a = _
      rw [f3 a j (nN a ha), pp]
    have NX : ∀ a, zN S16 a = zN S a := fun a => by
      rw [e_S16]
      show zN (zNd S2) a = _
      rw [g1, e_S2]; rfl
    have AX : ∀ a, zA S16 a = zA S a := fun a => by
      rw [e_S16]
      show zA (zNd S2) a = _
      rw [g2, e_S2]; rfl
    refine ⟨S16, zt S2, ⟨⟨?_, fun i hi => ?_⟩, ?_, fun j hj => ?_, fun a ha => ?_, Or.inr ⟨by rw [← kk]; exact T0, by rw [← kk]; exact T1⟩, ⟨T2.2.2.2.2.2.2.2.2.2.2.1, ?_, ?_, ?_⟩, by rw [e_S16]; exact TX⟩, hf⟩
    · rw [e_S16]
      show va_up (zB (zNd S2)) (g + 5) (va_up (zB (zNd S2) (g + 5)) (n + 1) (some (zt S2))) (g + 5) (n + 1) = _
      rw [va_up_self, va_up_self]
    · rw [e_S16]
      show va_up (zB (zNd S2)) (g + 5) (va_up (zB (zNd S2) (g + 5)) (n + 1) (some (zt S2))) (g + 5) i = _
      rw [va_up_self, va_up_ne _ _ hi, g3, bb]
    · rw [IX' g 3 (by rw [kg]; decide), i2]; omega
    · rw [IX' g j (by rw [kg]; decide), e_S2]; exact zI_j hj
    · refine ⟨⟨KX a ha, NX a, fun _ j => PX a j ha, fun k15 => BX a (fun e => by rw [e, k5] at k15; omega)⟩, fun hw => ⟨KX a ha, NX a, fun j => ?_, fun j => PX a j ha, BX a (fun e => hw (Or.inr e)), fun _ => AX a, fun _ c _ => AX c⟩⟩
      rw [IX' a j ha, e_S2]
      exact zI_b (fun e => hw (Or.inl e))
    · rw [e_S16]; exact f4
    · rw [e_S16]; exact zNd_p S2
    · rw [e_S16]; exact f5
  · skip
    rw [h_b5] at e_v4
    obtain ⟨a1, a2, a3, a4⟩ := G _ _ e_v4.symm
    refine ⟨S2, b5, ⟨⟨by rw [bb]; exact e_v4.symm, fun i _ => by rw [bb]⟩, by rw [i2]; omega, fun j hj => by rw [e_S2]; exact zI_j hj, fr_m F2 (fun a _ e => Or.inl e), Or.inl e_v4.symm, ⟨a1, by rw [kk]; exact a2, by rw [pp]; exact a3, by rw [kk]; exact a4⟩, T2⟩, hf⟩
/-- a node more: the cells stay as they should -/
theorem gz_102 (hf : d_X1_grow_102 g x1 x2 x3 S = some o) : FrZ [(4, 0), (4, 1), (4, 2), (4, 3), (4, 4), (4, 5), (6, 1)] [] [] S o.2 := by
  have h147 : ∀ {S1 : ZS}, d_X1_grow_147 g S1 = some o → o.2 = S1 := fun hf => by
    unfold d_X1_grow_147 at hf
    obtain ⟨-, hf⟩ := m_chkE hf
    cases hf
    rfl
  unfold d_X1_grow_102 at hf
  obtain ⟨-, hf⟩ := m_chkE hf
  obtain ⟨-, hf⟩ := m_chkE hf
  obtain ⟨o1, h1, hf⟩ := m_calE hf
  obtain ⟨-, hf⟩ := m_chkE hf
  obtain ⟨-, hf⟩ := m_chkE hf
  obtain ⟨o2, h2, hf⟩ := m_calE hf
  obtain ⟨-, hf⟩ := m_chkE hf
  have f1 : FrZ [(4, 0), (4, 1), (4, 2), (4, 3), (4, 4), (4, 5), (6, 1)] [] [] S o1.2 := frz_t frz_0 (fz_X1_at h1) (by decide) (by decide) (by decide)
  have f2 := frz_t f1 (fz_X4_become h2) (by decide) (by decide) (by decide)
  rcases m_ifE hf with ⟨-, hf⟩ | ⟨-, hf⟩
  · obtain ⟨-, hf⟩ := m_chkE hf
    obtain ⟨o5, h5, hf⟩ := m_calE hf
    obtain ⟨-, hf⟩ := m_chkE hf
    obtain ⟨-, hf⟩ := m_chkE hf
    obtain ⟨k4, hf⟩ := m_chkE hf
    obtain ⟨S6, e6, hf⟩ := m_bndE hf
    have f5 := frz_t f2 (fz_X1_at h5) (by decide) (by decide) (by decide)
    rw [h147 hf]
    exact frz_I f5 k4 e6 (by decide)
  · obtain ⟨-, hf⟩ := m_chkE hf
    obtain ⟨o5, h5, hf⟩ := m_calE hf
    obtain ⟨-, hf⟩ := m_chkE hf
    obtain ⟨-, hf⟩ := m_chkE hf
    obtain ⟨k4, hf⟩ := m_chkE hf
    obtain ⟨S6, e6, hf⟩ := m_bndE hf
    have f5 := frz_t f2 (fz_X1_at h5) (by decide) (by decide) (by decide)
    rw [h147 hf]
    exact frz_I f5 k4 e6 (by decide)
theorem gz_24 : ∀ (k : Nat) (x3 x4 : Int32) (S : ZS), d_X1_grow_24 k g x1 x2 x3 x4 S = some o → ∃ y, d_X1_grow_64 g x1 x2 y S = some o := by
  intro k
  induction k with
  | zero => intro x3 x4 S hf; cases hf
  | succ k ih =>
    intro x3 x4 S hf
    have hf : d_X1_grow_24s (d_X1_grow_24 k) g x1 x2 x3 x4 S = some o := hf
    unfold d_X1_grow_24s at hf
    rcases m_ifE hf with ⟨-, hf⟩ | ⟨-, hf⟩
    · exact ⟨_, hf⟩
    · rcases m_ifE hf with ⟨-, hf⟩ | ⟨-, hf⟩
      · exact ⟨_, hf⟩
      · obtain ⟨-, hf⟩ := m_chkE hf
        obtain ⟨o1, h1, hf⟩ := m_calE hf
        obtain ⟨-, hf⟩ := m_chkE hf
        obtain ⟨-, hf⟩ := m_chkE hf
        have e1 := ro_X1_at h1
        rw [e1] at hf
        rcases m_ifE hf with ⟨-, hf⟩ | ⟨-, hf⟩
        · exact ⟨_, hf⟩
        · obtain ⟨-, hf⟩ := m_chkE hf
          obtain ⟨o2, h2, hf⟩ := m_calE hf
          obtain ⟨-, hf⟩ := m_chkE hf
          obtain ⟨-, hf⟩ := m_chkE hf
          obtain ⟨v3, -, hf⟩ := m_bndE hf
          have e2 := ro_X1_at h2
          rw [e2] at hf
          exact ih _ _ _ hf
theorem gz_x {SX : ZS} {c : Nat} (hx : CGx S) (hg : GG g g') (hX : GXn S SX g c n) : CGx SX := by
  have hgr := gg_g hg
  obtain ⟨⟨kg, p0, p1, p2, p4, p7⟩, ⟨k1, k2', k3, k4, k5, k6, k7⟩, -⟩ := fx_g hx.1 hgr
  obtain ⟨⟨b1, b2⟩, i3, iO, FX, old, ⟨c1, c2, c3, c4⟩, TX⟩ := hX
  have hxy : (g = 35 ∧ g' = 99) ∨ (g = 99 ∧ g' = 35) := hg
  have eB : ∀ z, 1 ≤ z → z ≤ 108 → z ≠ g → z ≠ g + 5 → zB SX z = zB S z := fun z z1 z2 z3 z4 => (fr_e FX (fx_l hx.1 z1 z2) (by omega)).2.2.2.2.1
  have G := cgx_g hx hgr
  have Gg : GM SX g := by
    refine ⟨fun i z hz => ?_, fun i z hz => ?_⟩
    · by_cases e : i = n + 1
      · rw [e, b1] at hz
        cases hz
        exact ⟨c1, c2, c3, c4⟩
      · rw [b2 i e] at hz
        obtain ⟨d1, d2, d3, d4⟩ := G.1 i z hz
        exact ⟨d1, (fr_k FX (by rw [d2]; decide)).trans d2, ((FX z (by rw [d2]; decide)).1.2.2.1 (by rw [d2]; rfl) 6).trans d3, (fr_k FX (by rw [d4]; decide)).trans d4⟩
    · rw [eB (g + 6) (by omega) (by omega) (by omega) (by omega)] at hz
      obtain ⟨d1, d2, d3, d4, d5, d6⟩ := G.2 i z hz
      have q := (FX z (by rw [d2]; decide)).1.2.2.1 (by rw [d2]; rfl)
      exact ⟨d1, (fr_k FX (by rw [d2]; decide)).trans d2, (q 0).trans d3, (q 1).trans d4, (fr_k FX (by rw [d5]; decide)).trans d5, (fr_k FX (by rw [d6]; decide)).trans d6⟩
  have Gg' : GM SX g' := gm_fr hx.1 (gg_g (gg_s hg)) (cgx_g hx (gg_g (gg_s hg))) FX (eB (g' + 5) (by omega) (by omega) (by omega) (by omega)) (eB (g' + 6) (by omega) (by omega) (by omega) (by omega))
  have TD : TDX SX := fun q q' hq => by
    have hq2 : (q = 35 ∧ q' = 99) ∨ (q = 99 ∧ q' = 35) := hq
    rw [eB (q + 6) (by omega) (by omega) (by omega) (by omega), eB (q' + 6) (by omega) (by omega) (by omega) (by omega)]
    exact hx.2.2.2 q q' hq
  refine ⟨fix_fr hx.1 FX, ?_, ?_, TD⟩
  · rcases hxy with ⟨e, e2⟩ | ⟨e, e2⟩
    · rw [e] at Gg; exact Gg
    · rw [e2] at Gg'; exact Gg'
  · rcases hxy with ⟨e, e2⟩ | ⟨e, e2⟩
    · rw [e2] at Gg'; exact Gg'
    · rw [e] at Gg; exact Gg
theorem sc_grow (hT : ZT S) (h : SC S) (hg : g = 35 ∨ g = 99) (hf : d_X1_grow g x1 x2 S = some o) : SC o.2 := by
  have hg : ∃ g', GG g g' := hg.elim (fun e => ⟨99, Or.inl ⟨e, rfl⟩⟩) (fun e => ⟨35, Or.inr ⟨e, rfl⟩⟩)
  obtain ⟨g', hg⟩ := hg
  have hf : d_X1_grow_0 g x1 x2 S = some o := hf
  unfold d_X1_grow_0 at hf
  obtain ⟨kg, hf⟩ := m_chkE hf
  rcases m_ifE hf with ⟨c1, hf⟩ | ⟨c1, hf⟩
  · replace c1 := ti_ltP (a := zI S 3 g) (b := (300 : Int32)) c1 rfl (show (300 : Int32).toInt = 300 from rfl)
    obtain ⟨-, hf⟩ := m_chkE hf
    obtain ⟨o1, h1, hf⟩ := m_calE hf
    obtain ⟨-, hf⟩ := m_chkE hf
    obtain ⟨-, hf⟩ := m_chkE hf
    have e1 := ro_X1_at h1
    rw [e1] at hf
    obtain ⟨y, hf⟩ := gz_24 _ _ _ _ hf
    have hc := cn_le hT kg
    obtain ⟨SX, c, hX, hf⟩ := gz_64 hT h.1 (gg_g hg) rfl (by omega) hf
    have sx : SC SX := sc_fr h (gz_x h.1 hg hX) hX.2.2.2.1
    exact sc_z sx hX.2.2.2.2.2.2 (gz_102 hf) (by decide)
  · cases hf
    exact h
/-- add's last steps -/
theorem sc_95 {r : (Nat × Int32) × ZS} (hT : ZT S) (h : SC S) (hf : d_X11_add_95 1 x1 x2 S = some r) : SC r.2 := by
  unfold d_X11_add_95 at hf
  obtain ⟨k1, hf⟩ := m_chkE hf
  obtain ⟨S1, e1, hf⟩ := m_bndE hf
  obtain ⟨-, hf⟩ := m_chkE hf
  obtain ⟨b2, -, hf⟩ := m_calE hf
  obtain ⟨-, hf⟩ := m_chkE hf
  obtain ⟨o3, h3, hf⟩ := m_calE hf
  obtain ⟨-, hf⟩ := m_chkE hf
  cases hf
  have f1 : FrZ [(0, 1), (0, 2), (0, 3), (0, 4), (0, 5), (0, 6), (11, 8)] [] [] S S1 := frz_I frz_0 k1 e1 (by decide)
  exact sc_z h hT (frz_t f1 (fz_X0_play h3) (by decide) (by decide) (by decide)) (by decide)
theorem sc_add {r : (Nat × Int32) × ZS} (hT : ZT S) (hZ : TZ S) (hcur : ∀ g', zP S 7 1 = some g' → (zI S 8 1).toInt ≤ (cn S g' : Int)) (h : SC S) (hf : d_X11_add 1 x1 S = some r) : SC r.2 := by
  have hf : d_X11_add_0 1 x1 S = some r := hf
  have h72 : ∀ {S1 : ZS}, SC S1 → d_X11_add_72 S1 = some r → SC r.2 := fun h hf => by
    unfold d_X11_add_72 at hf
    cases hf
    exact sc_q h
  unfold d_X11_add_0 at hf
  obtain ⟨kx, hf⟩ := m_chkE hf
  obtain ⟨b1, p1, hf⟩ := m_calE hf
  obtain ⟨-, hf⟩ := m_chkE hf
  obtain ⟨b2, p2, hf⟩ := m_calE hf
  obtain ⟨kb1, hf⟩ := m_chkE hf
  obtain ⟨⟨y3, S3⟩, h3, hf⟩ := m_calE hf
  obtain ⟨-, hf⟩ := m_chkE hf
  have k2 : zK S b2 = 0 := by
    obtain ⟨c, q, k⟩ := T_11_9 hT kx
    rw [p2] at q
    cases q
    exact k
  have T3 : ZT S3 := (ok_of (t_f_X7_isLegal (SZ := S) (x0 := b1) (x1 := b2) (x2 := x1) hT (a7_0 S) kb1 k2) h3).1
  have F3 := fz_X7_isLegal h3
  have s3 : SC S3 := sc_z h hT F3 (by decide)
  have Z3 : TZ S3 := tz_fr hT F3 (by decide) hZ
  dsimp only at hf
  rcases m_ifE hf with ⟨-, hf⟩ | ⟨-, hf⟩
  · cases hf
    exact sc_q s3
  · obtain ⟨kx3, hf⟩ := m_chkE hf
    obtain ⟨b4, p4, hf⟩ := m_calE hf
    obtain ⟨-, hf⟩ := m_chkE hf
    obtain ⟨kb4, hf⟩ := m_chkE hf
    obtain ⟨o5, h5, hf⟩ := m_calE hf
    obtain ⟨-, hf⟩ := m_chkE hf
    have e5 : o5.2 = S3 := by
      obtain ⟨y, q, -⟩ := roz (t_f_X1_childWith (x1 := zI S3 8 1) (x2 := x1) T3 kb4)
      rw [q] at h5
      cases h5
      rfl
    rw [e5] at hf
    obtain ⟨gq, gq', hg, -, p7⟩ := s3.2
    have gb : gq' = 35 ∨ gq' = 99 := gg_g (gg_s hg)
    rcases m_ifE hf with ⟨-, hf⟩ | ⟨-, hf⟩
    · obtain ⟨-, hf⟩ := m_chkE hf
      obtain ⟨b6, p6, hf⟩ := m_calE hf
      obtain ⟨-, hf⟩ := m_chkE hf
      rcases m_ifE hf with ⟨-, hf⟩ | ⟨-, hf⟩
      · exact h72 s3 hf
      · obtain ⟨-, hf⟩ := m_chkE hf
        obtain ⟨b7, p7', hf⟩ := m_calE hf
        obtain ⟨-, hf⟩ := m_chkE hf
        obtain ⟨kb7, hf⟩ := m_chkE hf
        obtain ⟨o8, h8, hf⟩ := m_calE hf
        obtain ⟨-, hf⟩ := m_chkE hf
        have e8 : o8.2 = S3 := by
          obtain ⟨y, q, -⟩ := roz (t_f_X1_deepOfNext (x1 := zI S3 8 1) T3 kb7)
          rw [q] at h8
          cases h8
          rfl
        rw [e8] at hf
        rcases m_ifE hf with ⟨-, hf⟩ | ⟨-, hf⟩
        · obtain ⟨-, hf⟩ := m_chkE hf
          obtain ⟨b9, p9, hf⟩ := m_calE hf
          obtain ⟨-, hf⟩ := m_chkE hf
          obtain ⟨kb9, hf⟩ := m_chkE hf
          obtain ⟨⟨y11, S12⟩, h11, hf9⟩ := m_cal2E hf
          rw [p7] at p9
          cases p9
          have ex := (F3 hT.2.2.2.2.1).2.2
          have kS1 : zK S 1 = 11 := kx
          have p70 : zP S 7 1 = some gq' := by rw [← (ex 1 (by rw [kS1]; decide)).2.2.2.1 7 (by rw [kS1]; decide)]; exact p7
          have kg0 : zK S gq' = 1 := by
            obtain ⟨c, q, k⟩ := T_11_7 hT kx
            rw [p70] at q
            cases q
            exact k
          have c3 : (zI S3 8 1).toInt ≤ (cn S3 gq' : Int) := by
            have q1 : zI S3 8 1 = zI S 8 1 := (ex 1 (by rw [kS1]; decide)).2.2.1 8 (by rw [kS1]; decide)
            have q2 : zI S3 3 gq' = zI S 3 gq' := (ex gq' (by rw [kg0]; decide)).2.2.1 3 (by rw [kg0]; decide)
            unfold cn
            rw [q1, q2]
            exact hcur gq' p70
          have T12 : ZT S12 := (ok_of (t_d_X1_grow (SZ := S3) (x0 := gq') (x1 := zI S3 8 1) (x2 := x1) T3 (rp_0 S3) kb9 Z3 (by rcases gb with e | e <;> rw [e] <;> decide) ⟨(J_11_8 T3 kx3).1, c3⟩) h11).1
          exact sc_95 T12 (sc_grow T3 s3 gb h11) hf9
        · exact h72 s3 hf
    · exact sc_95 T3 s3 hf
end GRZ
