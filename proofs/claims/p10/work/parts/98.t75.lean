section RTC
variable {S0 S S' : ZS} {g g' : Nat} {ch : Int → Int} {N p q : Int} {st st' : PO} {L L' : List (List Int × List Int)} {T : TRa} {W : Nat → Prop} {u w : List Int} {o : Int32 × ZS} {x1 x2 : Int32}
theorem gri_lw {S1 : ZS} (h : GRi S1 S 23 2 43 44 ch N q u w) (hN : 0 ≤ N) (hcb : ∀ i, 0 ≤ ch i ∧ ch i ≤ 127) : LW S ch N q := by
  obtain ⟨k2, kt, -⟩ := gri_k h
  obtain ⟨hc, hn⟩ := gri_t h
  exact ⟨h.1, ⟨k2, (gri_P h).1, kt⟩, ⟨hc, hn, hN, h.2.2.2.2.1.2.2⟩, hcb, h.2.2.2.2.2.1, h.2.2.2.2.2.2.1⟩
theorem hn_no (h : HSn S0 S g') (hg : GG g g') (hX : FIX S0) (h1 : 0 ≤ x1.toInt ∧ x1.toInt ≤ 10) (h2 : 0 ≤ x2.toInt ∧ x2.toInt ≤ 100000) (l : LW S ch N q) (hf : f_X2_refuse 23 x1 x2 S = some o) : o.1.toInt = 0 ∧ HSn S0 o.2 g' ∧ LW o.2 ch N q := by
  obtain ⟨a1, a2, a3⟩ := lw_no l h1 h2 hf
  exact ⟨a1, hn_rd h hg hX a2.1 a3 (fun a ha => by unfold WRd; omega), a2⟩
theorem rt_111 (h : HSn S0 S g') (hg : GG g g') (hX : FIX S0) (h1 : 0 ≤ x1.toInt ∧ x1.toInt ≤ 100000) (l : LW S ch N q) (hf : d_X2_readTag_111 23 x1 S = some o) : o.1.toInt = 0 ∧ HSn S0 o.2 g' ∧ LW o.2 ch N q := by
  unfold d_X2_readTag_111 at hf
  obtain ⟨-, hf⟩ := m_chkE hf
  obtain ⟨⟨r1, S1⟩, h_r1, hf⟩ := m_calE hf
  dsimp only at hf
  obtain ⟨-, hf⟩ := m_chkE hf
  obtain ⟨-, hf⟩ := m_chkE hf
  have g1 := hn_no h hg hX (by decide) h1 l h_r1
  cases hf
  exact g1
/-- the position of a tag FEN -/
theorem hs_fen (h : HSt S0 S g g' ch N p st L T) (hu : RWL S 43 u) (hw : RWL S 44 w) (cw : ∀ i, 0 ≤ wA w i ∧ wA w i ≤ 127) (hf : f_X5_readInto 32 (g + 1) 44 S = some o) : (o.1.toInt = 1 ∧ ∃ st', FENo (wA w) (w.length : Int) st' ∧ HSt S0 o.2 g g' ch N p st' L T ∧ RWL o.2 43 u ∧ RWL o.2 44 w) ∨ (o.1.toInt = 0 ∧ (∀ st', ¬ FENo (wA w) (w.length : Int) st') ∧ HSn S0 o.2 g' ∧ LW o.2 ch N p) := by
  obtain ⟨c, ⟨hg, hX, hF0⟩, ⟨l, hpN, p3⟩, ⟨tr, hw', h0⟩, ⟨bo, pg⟩, tg, lb⟩ := h
  have hb : (g = 35 ∧ g' = 99) ∨ (g = 99 ∧ g' = 35) := hg
  have hgr := gg_g hg
  have k32 : zK S 32 = 5 := fx_k c.2.2.1 (by decide) (by decide)
  have k43 : zK S 43 = 6 := fx_k c.2.2.1 (by decide) (by decide)
  have k44 : zK S 44 = 6 := fx_k c.2.2.1 (by decide) (by decide)
  have k23 := l.2.1.1
  have G := gm_of c hgr
  obtain ⟨⟨kg, -⟩, ⟨kb, ka, k3, k4, k5, k6, -⟩, pb, -⟩ := fx_g c.2.2.1 hgr
  have T' : ZT o.2 := (ok_of (t_f_X5_readInto (SZ := S) c.1 (a7_0 S) k32 kb k44 (by decide)) hf).1
  have PF := pf_X5_readInto (x := 32) (bb := g + 1) rfl rfl rfl hf (by
    show va_up (zP S) 0 (va_up (zP S 0) 32 (some 44)) 0 (g + 1) = _
    rw [va_up_self, va_up_ne _ _ (by omega)]
    exact pb)
  have T1 : ZT (zsP S 0 32 (some 44)) := zt_P c.1 k32 (by decide) (Or.inr ⟨k44, rfl⟩) ⟨Nat.zero_le _, by decide⟩
  have T2 : ZT (zsI (zsP S 0 32 (some 44)) 1 32 0) := zt_I T1 k32 (by decide) (show (0 : Int) ≤ (0 : Int32).toInt ∧ (0 : Int32).toInt ≤ (90100 : Int) by decide)
  have F : FR (fun a => a = 32 ∨ a = g + 1 ∨ a = g + 2) S o.2 := fr_t (fr_m (fr_P (by rw [k32]; rfl) rfl) (fun a _ e => Or.inl e)) (fr_t (fr_m (fr_I rfl) (fun a _ e => Or.inl e)) (fr_pf T2 ka PF))
  have kz : ∀ a, zK S a < 18 → (a = 32 ∨ a = g + 1 ∨ a = g + 2) → zK S a = 5 ∨ zK S a = 0 ∨ zK S a = 14 := fun a _ e => by
    rcases e with e | e | e <;> rw [e]
    · exact Or.inl k32
    · exact Or.inr (Or.inl kb)
    · exact Or.inr (Or.inr ka)
  have Z' : TZ o.2 := tz_k c.1 c.2.1 F (fun a ha e => by have := kz a ha e; omega)
  have C' : CG o.2 := cg_w c T' Z' F (by omega) (by omega) (by omega) (by omega)
  have F' : FR (fun a => ¬ KPc S0 g' a) S0 o.2 := fr_t hF0 (fr_m F (fun a _ e => kp_fix c hg hF0 hX (by omega)))
  have l' : LW o.2 ch N p := lw_nd l T' F (by omega) (by omega)
  rcases p_readInto c.1 k32 kb pb ka k44 (by decide) (funext hw.2) cw hw.1 hf with ⟨a1, -, m, sd, rt, ps, nb, a3, a4⟩ | ⟨a1, a2⟩
  · obtain ⟨b1, b2, b3, b4, b5, b6, b7, b8⟩ := a4
    have ho : ∀ s, ¬ (0 ≤ s ∧ s < 64) → m s = 0 := fun s hs => by
      rw [← b1]
      unfold mCb
      rw [if_neg hs]
    obtain ⟨d1, d2, d3⟩ := fno_mk a3 b2 b7 b8 ho
    refine Or.inl ⟨a1, _, d1, ⟨C', ⟨hg, hX, F'⟩, ⟨l', hpN, ((F 23 (by rw [k23]; decide)).1.2.2.1 (by rw [k23]; rfl) 3).trans p3⟩, ⟨trc_e c hgr tr (fun a ha => fr_e F (tc_lt c hgr ha) (fun e => ?_)), hw', h0⟩, ⟨⟨⟨(fr_k F (by rw [kb]; decide)).trans kb, ((F (g + 1) (by rw [kb]; decide)).1.2.2.1 (by rw [kb]; rfl) 0).trans pb, (fr_k F (show zK S (g + 1 + 1) < 18 by rw [ka]; decide)).trans ka⟩, b1, b3, b4, b5, rfl, rfl, b6⟩, d2, d3⟩, tgk_fr c hgr tg F ((fr_e F (show zK S g < 18 by rw [kg]; decide) (by omega)).2.2.1 5) (by omega) (fun i t ht => ?_), lb⟩, eqc_rl (fr_e F (by rw [k43]; decide) (by omega)) k43 hu, eqc_rl (fr_e F (by rw [k44]; decide) (by omega)) k44 hw⟩
    · rcases ha with d | d | d | d | ⟨j, n, e1, e2⟩
      · omega
      · omega
      · omega
      · omega
      · have := (G.1 j n e1).1
        omega
    · have := (G.2 i t ht).1
      omega
  · exact Or.inr ⟨a1, fun st' hs => a2 _ _ _ _ _ hs.1, ⟨C', F'⟩, l'⟩
/-- what a tag of the class leaves -/
noncomputable def RTgo (S0 : ZS) (g g' : Nat) (ch : Int → Int) (N p : Int) (st : PO) (L : List (List Int × List Int)) (T : TRa) (o : Int32 × ZS) : Prop := (∃ r, TG1 ch N p L st r ∧ o.1.toInt = 1 ∧ HSt S0 o.2 g g' ch N r.1 r.2.2 r.2.1 T) ∨ ((∀ r, ¬ TG1 ch N p L st r) ∧ o.1.toInt = 0 ∧ HSn S0 o.2 g' ∧ ∃ q, LW o.2 ch N q)
theorem rt_19 (h : HSn S0 S g') (l : LW S ch N q) (hn : ∀ r, ¬ TG1 ch N p L st r) (hf : d_X2_readTag_19 S = some o) : RTgo S0 g g' ch N p st L T o := by
  unfold d_X2_readTag_19 at hf
  obtain ⟨-, hf⟩ := m_chkE hf
  cases hf
  exact Or.inr ⟨hn, rfl, h, q, l⟩
theorem p_readTagC (h : HSt S0 S g g' ch N p st L T) (h91 : ch p = 91) (hf : d_X2_readTag 23 S = some o) : RTgo S0 g g' ch N p st L T o := by
  have hf : d_X2_readTag_0 23 S = some o := hf
  obtain ⟨c, ⟨hg, hX, hF0⟩, ⟨l, hpN, p3⟩, ⟨tr, hw', h0⟩, ⟨bo, pg⟩, tg, lb⟩ := id h
  have hb : (g = 35 ∧ g' = 99) ∨ (g = 99 ∧ g' = 35) := hg
  have hgr := gg_g hg
  have k43 : zK S 43 = 6 := fx_k c.2.2.1 (by decide) (by decide)
  have k44 : zK S 44 = 6 := fx_k c.2.2.1 (by decide) (by decide)
  have p6 : zP S 6 23 = some 43 := fx_p c.2.2.1 (by decide)
  have p7 : zP S 7 23 = some 44 := fx_p c.2.2.1 (by decide)
  obtain ⟨-, ⟨k23, p2, k2⟩, ⟨hc, hN, hn⟩, hcb, h4, hp⟩ := id l
  obtain ⟨u0, hu0⟩ := rwl_ex c.1 k43
  obtain ⟨w0, hw0⟩ := rwl_ex c.1 k44
  have G0 : GRi S S 23 2 43 44 ch N p u0 w0 := ⟨c.1, grf_0, ⟨k23, p2, p6, p7⟩, ⟨k2, k43, k44, rfl, rfl, by decide, by decide, by decide⟩, ⟨hc, hN, hn.2⟩, h4, hp, hu0, hw0⟩
  have out : ∀ i, N ≤ i → ch i = 0 := fun i hi => lw_out l hi
  have pN : p < N := Int.not_le.1 (fun e => by have := out p e; omega)
  have toH : ∀ (S' : ZS) (q : Int) (u w : List Int), GRi S S' 23 2 43 44 ch N q u w → q ≤ N → HSt S0 S' g g' ch N q st L T := fun S' q u w G hq => hs_rd h (gri_lw G hn.1 hcb) hq (fr_g G.2.1 k43 k44) (fun a ha => by unfold WRd; omega)
  have toN : ∀ (S' : ZS) (q : Int) (u w : List Int), GRi S S' 23 2 43 44 ch N q u w → HSn S0 S' g' ∧ LW S' ch N q := fun S' q u w G => ⟨hn_rd (hs_n h) hg hX G.1 (fr_g G.2.1 k43 k44) (fun a ha => by unfold WRd; omega), gri_lw G hn.1 hcb⟩
  have noF : ∀ f, TPf ch N p f → ∀ r, ¬ TG1 ch N p L st r := fun f hF r ⟨e, u, w, a, _⟩ => tp_x hF a
  have noR : ∀ e u w, TPk ch N p e u w → RF2 L u w → ∀ r, ¬ TG1 ch N p L st r := fun e u w hk hR r ⟨e', u', w', a1, a2, _⟩ => by
    obtain ⟨-, e2, e3⟩ := tpk_u hk a1
    subst e2; subst e3
    exact a2 hR
  have z0 : (0 : Int32).toInt = 0 := rfl
  unfold d_X2_readTag_0 at hf
  obtain ⟨-, hf⟩ := m_chkE hf
  obtain ⟨-, hf⟩ := m_chkE hf
  obtain ⟨⟨r2, S3⟩, h_r2, hf⟩ := m_cal2E hf
  dsimp only at hf
  obtain ⟨a, b, n1, n2, G3, n4⟩ := p_readName G0 (by omega) hcb h_r2
  dsimp only at G3 n4
  have aN : a ≤ N := Int.not_lt.1 (fun e => by
    have := n1.2.1 N (by omega) e
    have := out N (Int.le_refl _)
    omega)
  have bN : b ≤ N := Int.not_lt.1 (fun e => by
    have := n2.2.1 N aN e
    rw [out N (Int.le_refl _)] at this
    unfold nmC isL isD at this
    omega)
  rcases m_ifE hf with ⟨c1, hf⟩ | ⟨c1, hf⟩
  · skip
    replace c1 := ti_eqP (a := r2) (b := (0 : Int32)) c1 rfl (show (0 : Int32).toInt = 0 from rfl)
    rcases n4 with ⟨-, n5⟩ | ⟨n5, -⟩
    · omega
    · exact rt_19 (toN _ _ _ _ G3).1 (toN _ _ _ _ G3).2 (noF a ⟨a, b, n1, n2, Or.inl ⟨n5, rfl⟩⟩) hf
  · skip
    replace c1 := ti_eqN (a := r2) (b := (0 : Int32)) c1 rfl (show (0 : Int32).toInt = 0 from rfl)
    have ab : a < b := by
      rcases n4 with ⟨n5, -⟩ | ⟨-, n5, -⟩
      · exact n5
      · omega
    obtain ⟨-, hf⟩ := m_chkE hf
    obtain ⟨⟨r7, S8⟩, h_r7, hf⟩ := m_cal2E hf
    dsimp only at hf
    obtain ⟨q, m1, m2, m3⟩ := p_readValue G3 bN hcb h_r7
    dsimp only at m3
    rcases m_ifE hf with ⟨c2, hf⟩ | ⟨c2, hf⟩
    · skip
      replace c2 := ti_eqP (a := r7) (b := (0 : Int32)) c2 rfl (show (0 : Int32).toInt = 0 from rfl)
      rcases m3 with ⟨m4, m5, m6, -⟩ | ⟨m4, m5, m6⟩
      · exact rt_19 (toN _ _ _ _ m5).1 (toN _ _ _ _ m5).2 (noF q ⟨a, b, n1, n2, Or.inr ⟨ab, q, m1, Or.inl ⟨m4, rfl⟩⟩⟩) hf
      · have mf : (vlP ch N 2001 (q + 1) []).1 = false := by
          rcases m6 with ⟨-, m7⟩ | ⟨m7, -⟩
          · have m7 : r7.toInt = 1 := m7
            omega
          · exact m7
        exact rt_19 (toN _ _ _ _ m5).1 (toN _ _ _ _ m5).2 (noF _ ⟨a, b, n1, n2, Or.inr ⟨ab, q, m1, Or.inr ⟨m4, Or.inl ⟨mf, rfl⟩⟩⟩⟩) hf
    · skip
      replace c2 := ti_eqN (a := r7) (b := (0 : Int32)) c2 rfl (show (0 : Int32).toInt = 0 from rfl)
      obtain ⟨m4, G8, mt⟩ : ch q = 34 ∧ GRi S S8 23 2 43 44 ch N (vlP ch N 2001 (q + 1) []).2.1 (wr ch a (b - a).toNat) (vlP ch N 2001 (q + 1) []).2.2 ∧ (vlP ch N 2001 (q + 1) []).1 = true := by
        rcases m3 with ⟨-, -, m6, -⟩ | ⟨m4, m5, m6⟩
        · omega
        · refine ⟨m4, m5, ?_⟩
          rcases m6 with ⟨m7, -⟩ | ⟨-, m7, -⟩
          · exact m7
          · have m7 : r7.toInt = 0 := m7
            omega
      obtain ⟨u, hu⟩ : ∃ u, wr ch a (b - a).toNat = u := ⟨_, rfl⟩
      obtain ⟨w, hw⟩ : ∃ w, (vlP ch N 2001 (q + 1) []).2.2 = w := ⟨_, rfl⟩
      have cu : ∀ i, 0 ≤ wA u i ∧ wA u i ≤ 127 := by rw [← hu]; exact wr_b hcb _
      have cw : ∀ i, 0 ≤ wA w i ∧ wA w i ≤ 127 := by
        rw [← hw]
        exact vl_b hcb 2001 (q + 1) [] (fun i => by rw [wA_out (by show i < 0 ∨ (0 : Int) ≤ i; omega)]; decide)
      rw [hu, hw] at G8
      obtain ⟨-, hf⟩ := m_chkE hf
      obtain ⟨⟨r11, S11c⟩, h_r11, hf⟩ := m_calE hf
      dsimp only at hf
      obtain ⟨e, d1, G11, d2⟩ := gri_bl G8 h_r11
      dsimp only at G11
      obtain ⟨P2, -, -⟩ := gri_P G11
      obtain ⟨hc11, -⟩ := gri_t G11
      have h411 := G11.2.2.2.2.2.1
      have he := G11.2.2.2.2.2.2.1
      have tk : ch e = 93 → TPk ch N p e u w := fun h93 => ⟨a, b, q, n1, n2, ab, m1, m4, mt, d1, h93, hu.symm, hw.symm⟩
      obtain ⟨-, hf⟩ := m_chkE hf
      obtain ⟨-, hf⟩ := m_chkE hf
      replace hf := m_calY hf P2
      obtain ⟨-, hf⟩ := m_chkE hf
      obtain ⟨-, hf⟩ := m_chkE hf
      obtain ⟨r13, h_r13, hf⟩ := m_calR hf (fun _ h => ro_X6_at h)
      dsimp only at hf
      have p_r13 := pc_X6_at h_r13
      dsimp only at p_r13
      rw [hc11, h411] at p_r13
      obtain ⟨-, hf⟩ := m_chkE hf
      rcases m_ifE hf with ⟨c3, hf⟩ | ⟨c3, hf⟩
      · skip
        replace c3 := ti_eqP (a := r13) (b := (93 : Int32)) c3 rfl (show (93 : Int32).toInt = 93 from rfl)
        obtain ⟨-, hf⟩ := m_chkE hf
        obtain ⟨v14, e_v14, hf⟩ := m_bndE hf
        have t_v14 : v14.toInt = (zI S11c 4 23).toInt + 1 := ti_add e_v14 rfl (show (1 : Int32).toInt = 1 from rfl) (by omega) (by omega)
        obtain ⟨-, hf⟩ := m_chkE hf
        obtain ⟨S15, e_S15, hf⟩ := m_bndE hf
        have tk := tk (by omega)
        have eN : e + 1 ≤ N := by
          have : ¬ N ≤ e := fun hh => by have := out e hh; omega
          omega
        have G15 : GRi S S15 23 2 43 44 ch N (e + 1) u w := gri_at G11 e_S15 (by omega) (by omega)
        have H15 := toH _ _ _ _ G15 eN
        obtain ⟨c15, -, ⟨l15, -, p315⟩, -, -, tg15, -⟩ := id H15
        have p615 : zP S15 6 23 = some 43 := fx_p c15.2.2.1 (by decide)
        have p715 : zP S15 7 23 = some 44 := fx_p c15.2.2.1 (by decide)
        have p115 : zP S15 1 23 = some 32 := fx_p c15.2.2.1 (by decide)
        have p015 := (fx_g c15.2.2.1 hgr).1.2.1
        have hu15 : RWL S15 43 u := G15.2.2.2.2.2.2.2.1
        have hw15 : RWL S15 44 w := G15.2.2.2.2.2.2.2.2
        have i515 := tg15.1
        have l8 := tg15.2.1
        have ref : RF2 L u w → d_X2_readTag_111 23 (zI S 4 23) S15 = some o → RTgo S0 g g' ch N p st L T o := fun hR hf => by
          obtain ⟨g1, g2, g3⟩ := rt_111 (hs_n H15) hg hX (by omega) l15 hf
          exact Or.inr ⟨noR e u w tk hR, g1, g2, _, g3⟩
        obtain ⟨-, hf⟩ := m_chkE hf
        replace hf := m_calY hf p315
        obtain ⟨-, hf⟩ := m_chkE hf
        rcases m_ifE hf with ⟨c4, hf⟩ | ⟨c4, hf⟩
        · skip
          replace c4 := ti_leP (a := (8 : Int32)) (b := (zI S15 5 g)) c4 (show (8 : Int32).toInt = 8 from rfl) rfl
          exact ref (Or.inl (by omega)) hf
        · skip
          replace c4 := ti_leN (a := (8 : Int32)) (b := (zI S15 5 g)) c4 (show (8 : Int32).toInt = 8 from rfl) rfl
          obtain ⟨-, hf⟩ := m_chkE hf
          replace hf := m_calY hf p615
          obtain ⟨-, hf⟩ := m_chkE hf
          obtain ⟨r18, h_r18, hf⟩ := m_calR hf (fun _ h => ro_X6_size h)
          dsimp only at hf
          have p_r18 := pc_X6_size h_r18
          dsimp only at p_r18
          have q18 : r18.toInt = (u.length : Int) := by rw [p_r18]; exact hu15.1
          obtain ⟨-, hf⟩ := m_chkE hf
          rcases m_ifE hf with ⟨c5, hf⟩ | ⟨c5, hf⟩
          · skip
            replace c5 := ti_ltP (a := (12 : Int32)) (b := r18) c5 (show (12 : Int32).toInt = 12 from rfl) rfl
            exact ref (Or.inr (Or.inl (by omega))) hf
          · skip
            replace c5 := ti_ltN (a := (12 : Int32)) (b := r18) c5 (show (12 : Int32).toInt = 12 from rfl) rfl
            obtain ⟨-, hf⟩ := m_chkE hf
            replace hf := m_calY hf p315
            obtain ⟨-, hf⟩ := m_chkE hf
            replace hf := m_calY hf p615
            obtain ⟨-, hf⟩ := m_chkE hf
            obtain ⟨⟨r22, S23⟩, h_r22, hf⟩ := m_cal2E hf
            dsimp only at hf
            obtain ⟨e23, b22, q22⟩ := p_hasTag (tgk_c c15 hgr tg15) hu15 (fun i i0 i1 => by have := (lb i i0 i1).1; omega) h_r22
            dsimp only at e23 b22 q22
            rw [e23] at hf
            rcases m_ifE hf with ⟨c6, hf⟩ | ⟨c6, hf⟩
            · skip
              replace c6 := ti_eqP (a := r22) (b := (0 : Int32)) c6 rfl (show (0 : Int32).toInt = 0 from rfl)
              obtain ⟨-, hf⟩ := m_chkE hf
              replace hf := m_calY hf p715
              obtain ⟨-, hf⟩ := m_chkE hf
              obtain ⟨r27, h_r27, hf⟩ := m_calR hf (fun _ h => ro_X6_size h)
              dsimp only at hf
              have p_r27 := pc_X6_size h_r27
              dsimp only at p_r27
              have q27 : r27.toInt = (w.length : Int) := by rw [p_r27]; exact hw15.1
              obtain ⟨-, hf⟩ := m_chkE hf
              rcases m_ifE hf with ⟨c7, hf⟩ | ⟨c7, hf⟩
              · skip
                replace c7 := ti_leP (a := r27) (b := (96 : Int32)) c7 rfl (show (96 : Int32).toInt = 96 from rfl)
                obtain ⟨-, hf⟩ := m_chkE hf
                replace hf := m_calY hf p615
                obtain ⟨-, hf⟩ := m_chkE hf
                obtain ⟨r29, h_r29, hf⟩ := m_calR hf (fun _ h => ro_X6_is h)
                dsimp only at hf
                have p_r29 := pc_X6_is h_r29
                dsimp only at p_r29
                obtain ⟨b29, q29⟩ := pc_X6_is h_r29 u hu15 (by rw [hu15.1]; omega)
                dsimp only at b29 q29
                have nR : ¬ RF2 L u w := by
                  rintro (x | x | x | x)
                  · omega
                  · omega
                  · omega
                  · have := q22.2 x; omega
                obtain ⟨-, hf⟩ := m_chkE hf
                rcases m_ifE hf with ⟨c8, hf⟩ | ⟨c8, hf⟩
                · skip
                  replace c8 := ti_eqP (a := r29) (b := (0 : Int32)) c8 rfl (show (0 : Int32).toInt = 0 from rfl)
                  obtain ⟨y1, y2⟩ := rt_158 H15 (by omega) hu15 hw15 (by omega) (by omega) cu cw hf
                  exact Or.inl ⟨(e + 1, L ++ [(u, w)], st), ⟨e, u, w, tk, nR, rfl, rfl, Or.inl ⟨fun x => by have := q29.2 x; omega, rfl⟩⟩, y1, y2⟩
                · skip
                  replace c8 := ti_eqN (a := r29) (b := (0 : Int32)) c8 rfl (show (0 : Int32).toInt = 0 from rfl)
                  obtain ⟨-, hf⟩ := m_chkE hf
                  replace hf := m_calY hf p115
                  obtain ⟨-, hf⟩ := m_chkE hf
                  replace hf := m_calY hf p315
                  obtain ⟨-, hf⟩ := m_chkE hf
                  replace hf := m_calY hf p015
                  obtain ⟨-, hf⟩ := m_chkE hf
                  replace hf := m_calY hf p715
                  obtain ⟨-, hf⟩ := m_chkE hf
                  obtain ⟨⟨r34, S34c⟩, h_r34, hf⟩ := m_calE hf
                  dsimp only at hf
                  have g34 := hs_fen H15 hu15 hw15 cw h_r34
                  dsimp only at g34
                  have hF : u = strL 0 := q29.1 (by omega)
                  obtain ⟨-, hf⟩ := m_chkE hf
                  rcases m_ifE hf with ⟨c9, hf⟩ | ⟨c9, hf⟩
                  · skip
                    replace c9 := ti_eqP (a := r34) (b := (0 : Int32)) c9 rfl (show (0 : Int32).toInt = 0 from rfl)
                    obtain ⟨-, hf⟩ := m_chkE hf
                    obtain ⟨⟨r35, S35c⟩, h_r35, hf⟩ := m_calE hf
                    dsimp only at hf
                    obtain ⟨x1, x2, x3⟩ : (∀ st', ¬ FENo (wA w) (w.length : Int) st') ∧ HSn S0 S34c g' ∧ LW S34c ch N (e + 1) := by
                      rcases g34 with ⟨x, -⟩ | ⟨-, x⟩
                      · omega
                      · exact x
                    obtain ⟨g1, g2, g3⟩ := hn_no x2 hg hX (by decide) (by omega) x3 h_r35
                    dsimp only at g1 g2 g3
                    obtain ⟨-, hf⟩ := m_chkE hf
                    obtain ⟨-, hf⟩ := m_chkE hf
                    cases hf
                    try dsimp only
                    refine Or.inr ⟨fun r hr => ?_, g1, g2, _, g3⟩
                    obtain ⟨e', u', w', a1, a2, a3, a4, a5⟩ := hr
                    obtain ⟨-, e2, e3⟩ := tpk_u tk a1
                    subst e2; subst e3
                    rcases a5 with ⟨a6, -⟩ | ⟨-, a6⟩
                    · exact a6 hF
                    · exact x1 _ a6
                  · skip
                    replace c9 := ti_eqN (a := r34) (b := (0 : Int32)) c9 rfl (show (0 : Int32).toInt = 0 from rfl)
                    obtain ⟨st', x1, x2, x3, x4⟩ : ∃ st', FENo (wA w) (w.length : Int) st' ∧ HSt S0 S34c g g' ch N (e + 1) st' L T ∧ RWL S34c 43 u ∧ RWL S34c 44 w := by
                      rcases g34 with ⟨-, x⟩ | ⟨x, -⟩
                      · exact x
                      · omega
                    obtain ⟨y1, y2⟩ := rt_158 x2 (by omega) x3 x4 (by omega) (by omega) cu cw hf
                    exact Or.inl ⟨(e + 1, L ++ [(u, w)], st'), ⟨e, u, w, tk, nR, rfl, rfl, Or.inr ⟨hF, x1⟩⟩, y1, y2⟩
              · skip
                replace c7 := ti_leN (a := r27) (b := (96 : Int32)) c7 rfl (show (96 : Int32).toInt = 96 from rfl)
                exact ref (Or.inr (Or.inr (Or.inl (by omega)))) hf
            · skip
              replace c6 := ti_eqN (a := r22) (b := (0 : Int32)) c6 rfl (show (0 : Int32).toInt = 0 from rfl)
              exact ref (Or.inr (Or.inr (Or.inr (q22.1 (by omega))))) hf
      · skip
        replace c3 := ti_eqN (a := r13) (b := (93 : Int32)) c3 rfl (show (93 : Int32).toInt = 93 from rfl)
        obtain ⟨-, hf⟩ := m_chkE hf
        obtain ⟨-, hf⟩ := m_chkE hf
        obtain ⟨⟨r36, S36c⟩, h_r36, hf⟩ := m_calE hf
        dsimp only at hf
        obtain ⟨g1, g2, g3⟩ := hn_no (toN _ _ _ _ G11).1 hg hX (by decide) (by omega) (toN _ _ _ _ G11).2 h_r36
        dsimp only at g1 g2 g3
        obtain ⟨-, hf⟩ := m_chkE hf
        obtain ⟨-, hf⟩ := m_chkE hf
        cases hf
        try dsimp only
        exact Or.inr ⟨noF e ⟨a, b, n1, n2, Or.inr ⟨ab, q, m1, Or.inr ⟨m4, Or.inr ⟨mt, e, d1, by omega, rfl⟩⟩⟩⟩, g1, g2, _, g3⟩
end RTC
section RHC
variable {S0 S S' : ZS} {g g' : Nat} {ch : Int → Int} {N p q : Int} {st st' : PO} {L L' : List (List Int × List Int)} {T : TRa} {o : Int32 × ZS}
theorem rh_8 : ∀ (n : Nat) (S : ZS) (x1 x2 : Int32) (k : Nat) (p : Int) (L : List (List Int × List Int)) (st : PO), HSt S0 S g g' ch N p st L T → x1.toInt = 1 → x2.toInt = (L.length : Int) → 9 ≤ k + L.length → d_X2_readHead_8 n 23 x1 x2 S = some o → (∃ r S1, hdP ch N k p L st = some r ∧ HSt S0 S1 g g' ch N r.1 r.2.2 r.2.1 T ∧ d_X2_readHead_50 23 1 S1 = some o) ∨ (hdP ch N k p L st = none ∧ o.1.toInt = 0 ∧ HSn S0 o.2 g') := by
  intro n
  induction n with
  | zero => intro S x1 x2 k p L st _ _ _ _ hf; cases hf
  | succ n ih =>
    intro S x1 x2 k p L st h h1 h2 hk hf
    have hf : d_X2_readHead_8s (d_X2_readHead_8 n) 23 x1 x2 S = some o := hf
    obtain ⟨c, ⟨hg, hX, hF0⟩, ⟨l, hpN, p3⟩, -, -, tg, -⟩ := id h
    obtain ⟨-, ⟨k23, p2, k2⟩, ⟨hc, hN, hn⟩, hcb, h4, hp⟩ := id l
    have l8 := tg.2.1
    have e1 : x1 = 1 := i32_of h1
    obtain ⟨k, rfl⟩ : ∃ j, k = j + 1 := ⟨k - 1, by omega⟩
    unfold d_X2_readHead_8s at hf
    rcases m_ifE hf with ⟨c1, hf⟩ | ⟨c1, hf⟩
    · skip
      replace c1 := ti_leP (a := (2000 : Int32)) (b := x2) c1 (show (2000 : Int32).toInt = 2000 from rfl) rfl
      omega
    · skip
      replace c1 := ti_leN (a := (2000 : Int32)) (b := x2) c1 (show (2000 : Int32).toInt = 2000 from rfl) rfl
      rcases m_ifE hf with ⟨c2, hf⟩ | ⟨c2, hf⟩
      · skip
        replace c2 := ti_eqP (a := x1) (b := (0 : Int32)) c2 rfl (show (0 : Int32).toInt = 0 from rfl)
        omega
      · skip
        replace c2 := ti_eqN (a := x1) (b := (0 : Int32)) c2 rfl (show (0 : Int32).toInt = 0 from rfl)
        obtain ⟨-, hf⟩ := m_chkE hf
        replace hf := m_calY hf p2
        obtain ⟨-, hf⟩ := m_chkE hf
        obtain ⟨-, hf⟩ := m_chkE hf
        obtain ⟨r2, h_r2, hf⟩ := m_calR hf (fun _ h => ro_X6_at h)
        dsimp only at hf
        have p_r2 := pc_X6_at h_r2
        dsimp only at p_r2
        rw [hc, h4] at p_r2
        obtain ⟨-, hf⟩ := m_chkE hf
        rcases m_ifE hf with ⟨c3, hf⟩ | ⟨c3, hf⟩
        · skip
          replace c3 := ti_eqP (a := r2) (b := (91 : Int32)) c3 rfl (show (91 : Int32).toInt = 91 from rfl)
          obtain ⟨-, hf⟩ := m_chkE hf
          obtain ⟨⟨r4, S5⟩, h_r4, hf⟩ := m_cal2E hf
          dsimp only at hf
          have g4 := p_readTagC h (by omega) h_r4
          obtain ⟨-, hf⟩ := m_chkE hf
          obtain ⟨⟨r8, S8c⟩, h_r8, hf⟩ := m_calE hf
          dsimp only at hf
          have g8 : ∀ q, LW S5 ch N q → BL ch q (blk ch q) ∧ LW S8c ch N (blk ch q) ∧ FR (fun a => a = 23) S5 S8c ∧ (blk ch q ≤ q ∨ blk ch q ≤ N) := fun q hq => lw_bl hq h_r8
          obtain ⟨-, hf⟩ := m_chkE hf
          obtain ⟨v9, e_v9, hf⟩ := m_bndE hf
          have t_v9 : v9.toInt = x2.toInt + 1 := ti_add e_v9 rfl (show (1 : Int32).toInt = 1 from rfl) (by omega) (by omega)
          rcases g4 with ⟨r, a1, a2, a3⟩ | ⟨a1, a2, a3, q, a4⟩
          · dsimp only at a2 a3
            obtain ⟨b1, b2, b3, b4⟩ := g8 _ a3.2.2.1.1
            have b5 := a3.2.2.1.2.1
            have H := hs_rd a3 b2 (by omega) b3 (fun a ha => by unfold WRd; omega)
            have hl : r.2.1.length = L.length + 1 := by
              obtain ⟨e, u, w, -, -, -, x, -⟩ := a1
              rw [x, List.length_append]; rfl
            rw [hd_y (by omega) a1]
            exact ih S8c r4 v9 k _ _ _ H a2 (by rw [hl]; omega) (by rw [hl]; omega) hf
          · dsimp only at a2 a3 a4
            obtain ⟨b1, b2, b3, b4⟩ := g8 _ a4
            have H := hn_rd a3 hg hX b2.1 b3 (fun a ha => by unfold WRd; omega)
            refine Or.inr ⟨hd_n (by omega) a1, ?_⟩
            cases n with
            | zero => cases hf
            | succ n =>
              have hf : d_X2_readHead_8s (d_X2_readHead_8 n) 23 r4 v9 S8c = some o := hf
              have r0 : r4 = 0 := i32_of a2
              rw [r0] at hf
              have fin : d_X2_readHead_50 23 0 S8c = some o → o.1.toInt = 0 ∧ HSn S0 o.2 g' := fun hf => by
                unfold d_X2_readHead_50 at hf
                rcases m_ifE hf with ⟨c9, hf⟩ | ⟨c9, hf⟩
                · unfold d_X2_readHead_73 d_X2_readHead_74 at hf
                  obtain ⟨-, hf⟩ := m_chkE hf
                  cases hf
                  exact ⟨rfl, H⟩
                · exact absurd rfl c9
              unfold d_X2_readHead_8s at hf
              rcases m_ifE hf with ⟨c9, hf⟩ | ⟨c9, hf⟩
              · exact fin hf
              · rcases m_ifE hf with ⟨c9, hf⟩ | ⟨c9, hf⟩
                · exact fin hf
                · exact absurd rfl c9
        · skip
          replace c3 := ti_eqN (a := r2) (b := (91 : Int32)) c3 rfl (show (91 : Int32).toInt = 91 from rfl)
          rw [e1] at hf
          exact Or.inl ⟨(p, L, st), S, hd_0 (by omega), h, hf⟩
end RHC
