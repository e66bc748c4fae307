/-- a game of the class, whole -/
noncomputable def GMc (S : ZS) (g : Nat) (L : List (List Int × List Int)) (st : PO) (T : TRa) (r : Int) : Prop := (TRc S g T ∧ WT T ∧ LTr st T) ∧ BO S (g + 1) st ∧ TGk S g L ∧ LBd L ∧ (zI S 6 g).toInt = r
/-- the class's text -/
noncomputable def TXc (S : ZS) (ch : Int → Int) (N : Int) : Prop := rwC S 2 = ch ∧ (zI S 1 2).toInt = N ∧ (0 ≤ N ∧ N ≤ 2000) ∧ ∀ i, 0 ≤ ch i ∧ ch i ≤ 127
/-- what read does once the game is exchanged -/
noncomputable def RDF (S25 : ZS) : Option (Int32 × ZS) :=
  m_chk (zK S25 1 = 11) (
  m_cal (zP S25 0 1) (fun b26 =>
  m_chk (zK S25 b26 = 6) (
  m_cal (f_X6_keep b26 (0 : Int32) S25) (fun o27 => m_chk (zt o27.2 = zt S25 ∧ zu o27.2 = zu S25) (
  m_chk (zK o27.2 1 = 11) (
  m_bnd (zsI o27.2 8 1 (0 : Int32)) (fun S28 =>
  m_chk (zK S28 1 = 11) (
  m_cal (zP S28 7 1) (fun b29 =>
  m_chk (zK S28 1 = 11) (
  m_cal (zP S28 9 1) (fun b30 =>
  m_chk (zK S28 b29 = 1) (
  m_cal (f_X1_standAt b29 (0 : Int32) b30 S28) (fun o31 => m_chk (zt o31.2 = zt S28 ∧ zu o31.2 = zu S28) (
  some ((0 : Int32), o31.2)))))))))))))))
section RDC
variable {S0 S S' : ZS} {g g' : Nat} {ch : Int → Int} {N p q : Int} {st : PO} {L : List (List Int × List Int)} {T : TRa} {r : Int} {o : Int32 × ZS} {W : Nat → Prop}
theorem tgk_e (hC : CG S) (hg : g = 35 ∨ g = 99) (h : TGk S g L) (h5 : EQc S S' g) (h6 : EQc S S' (g + 6)) (ht : ∀ i t, zB S (g + 6) i = some t → EQc S S' (t + 1) ∧ EQc S S' (t + 2)) : TGk S' g L := by
  obtain ⟨h1, h2, h3⟩ := h
  refine ⟨by rw [h5.2.2.1]; exact h1, h2, fun i hi => ?_⟩
  obtain ⟨t, t1, t2, t3⟩ := h3 i hi
  obtain ⟨-, -, -, -, a5, a6⟩ := (gm_of hC hg).2 _ _ t1
  exact ⟨t, by rw [h6.2.2.2.2.1]; exact t1, eqc_rl (ht i t t1).1 a5 t2, eqc_rl (ht i t t1).2 a6 t3⟩
theorem gmc_e (hC : CG S) (hg : g = 35 ∨ g = 99) (h : GMc S g L st T r) (hE : ∀ a, zK S a < 18 → ((g ≤ a ∧ a ≤ g + 6) ∨ 109 ≤ a) → EQc S S' a) : GMc S' g L st T r := by
  obtain ⟨⟨tr, hw, hl⟩, bo, tg, lb, hr⟩ := h
  have G := gm_of hC hg
  obtain ⟨⟨kg, -⟩, ⟨kb, ka, k3, k4, k5, k6, -⟩, -⟩ := fx_g hC.2.2.1 hg
  have eg := hE g (by rw [kg]; decide) (by omega)
  refine ⟨⟨trc_e hC hg tr (fun a ha => hE a (tc_lt hC hg ha) ?_), hw, hl⟩, bo_e bo (hE _ (by rw [kb]; decide) (by omega)) (hE (g + 2) (by rw [ka]; decide) (by omega)), tgk_e hC hg tg eg (hE _ (by rw [k6]; decide) (by omega)) (fun i t ht => ?_), lb, by rw [eg.2.2.1]; exact hr⟩
  · rcases ha with e | e | e | e | ⟨i, n, e1, e2⟩
    · omega
    · omega
    · omega
    · omega
    · have := (G.1 i n e1).1
      omega
  · obtain ⟨b1, -, -, -, b5, b6⟩ := G.2 i t ht
    exact ⟨hE _ (by rw [b5]; decide) (by omega), hE _ (by rw [b6]; decide) (by omega)⟩
theorem gmc_fr (hC : CG S) (hg : g = 35 ∨ g = 99) (h : GMc S g L st T r) (hF : FR W S S') (h0 : ∀ a, ((g ≤ a ∧ a ≤ g + 6) ∨ 109 ≤ a) → ¬ W a) : GMc S' g L st T r := gmc_e hC hg h (fun a ha hb => fr_e hF ha (h0 a hb))
theorem eqc_P {j c a : Nat} {v : Option Nat} (e : S' = zsP S j c v) (ha : a ≠ c) : EQc S S' a := by
  subst e
  refine ⟨rfl, rfl, fun _ => rfl, fun i => ?_, rfl, fun _ => rfl, fun _ _ _ => rfl⟩
  show va_up (zP S) j (va_up (zP S j) c v) i a = zP S i a
  by_cases ei : i = j
  · rw [ei, va_up_self]; exact va_up_ne _ _ ha
  · rw [va_up_ne _ _ ei]
theorem fx_17 : ∀ t ∈ fxL, ¬ (t.1 = 1 ∧ t.2.1 = 7) := by decide
/-- the class's game changes -/
theorem cg_7 {v : Nat} (h : CG S) (hT : ZT S') (e : S' = zsP S 7 1 (some v)) : CG S' := by
  obtain ⟨hT0, hZ, hX, h35, h99, hd⟩ := h
  have k1 : zK S 1 = 11 := hX.1 1 (by decide) (by decide)
  have P' : ∀ i a, ¬ (a = 1 ∧ i = 7) → zP S' i a = zP S i a := fun i a hn => by
    rw [e]
    show va_up (zP S) 7 (va_up (zP S 7) 1 (some v)) i a = zP S i a
    by_cases ei : i = 7
    · rw [ei, va_up_self]
      exact va_up_ne _ _ (fun ea => hn ⟨ea, ei⟩)
    · rw [va_up_ne _ _ ei]
  have K' : zK S' = zK S := by rw [e]; rfl
  have B' : zB S' = zB S := by rw [e]; rfl
  have I' : zI S' = zI S := by rw [e]; rfl
  have N' : zN S' = zN S := by rw [e]; rfl
  have gm : ∀ g, GM S g → GM S' g := fun g hm => by
    refine ⟨fun i a ha => ?_, fun i a ha => ?_⟩
    · rw [B'] at ha
      obtain ⟨a1, a2, a3, a4⟩ := hm.1 i a ha
      rw [K', P' 6 a (fun z => by omega)]
      exact ⟨a1, a2, a3, a4⟩
    · rw [B'] at ha
      obtain ⟨a1, a2, a3, a4, a5, a6⟩ := hm.2 i a ha
      rw [K', P' 0 a (fun z => by omega), P' 1 a (fun z => by omega)]
      exact ⟨a1, a2, a3, a4, a5, a6⟩
  refine ⟨hT, tz_x hT0 hZ (fun a _ => by rw [K']) (fun a i ha _ => P' i a (fun z => by rw [z.1, k1] at ha; omega)) (fun a _ => by rw [B']) (fun a _ => by rw [I']; exact ⟨rfl, rfl, rfl⟩) (fun a _ => by rw [I']), ⟨?_, ?_, ?_, ?_, ?_, ?_⟩, gm 35 h35, gm 99 h99, ?_⟩
  · rw [K']; exact hX.1
  · intro t ht
    rw [P' t.2.1 t.1 (fx_17 t ht)]
    exact hX.2.1 t ht
  · intro d hd
    rw [P' 0 _ (fun z => by omega)]; exact hX.2.2.1 d hd
  · intro d hd
    rw [P' 0 _ (fun z => by omega)]; exact hX.2.2.2.1 d hd
  · rw [B']; exact hX.2.2.2.2.1
  · rw [N']; exact hX.2.2.2.2.2
  · intro q q' hq
    rw [B']; exact hd q q' hq
/-- standing at the beginning -/
theorem p_stand0 {b : Nat} (hT : ZT S) (p7 : ∃ c, zP S 7 g = some c) (p0 : zP S 0 g = some (g + 1)) (k0 : zK S b = 0) (pb : zP S 0 b = some (b + 1)) (k1 : zK S (b + 1) = 14) (h : BO S (g + 1) st) (hf : f_X1_standAt g 0 b S = some o) : ZT o.2 ∧ FR (fun a => a = b ∨ a = b + 1) S o.2 ∧ BO o.2 b st := by
  have hf : f_X1_standAt_0 g 0 b S = some o := hf
  obtain ⟨c, p7⟩ := p7
  unfold f_X1_standAt_0 at hf
  obtain ⟨-, hf⟩ := m_chkE hf
  replace hf := m_calY hf p7
  have hf : f_X1_standAt_11s (f_X1_standAt_11 (mFuel - 1)) g b c 0 0 S = some o := hf
  unfold f_X1_standAt_11s at hf
  rcases m_ifE hf with ⟨-, hf⟩ | ⟨c1, hf⟩
  · unfold f_X1_standAt_54 at hf
    obtain ⟨-, hf⟩ := m_chkE hf
    replace hf := m_calY hf p0
    obtain ⟨-, hf⟩ := m_chkE hf
    obtain ⟨⟨r2, S2⟩, h_r2, hf⟩ := m_calE hf
    dsimp only at hf
    have g2 := bo_copy hT k0 pb k1 h h_r2
    dsimp only at g2
    obtain ⟨v3, e3, hf⟩ := m_bndE hf
    have t3 : v3.toInt = -1 := ti_sub e3 (show (0 : Int32).toInt = 0 from rfl) (show (1 : Int32).toInt = 1 from rfl) (by decide) (by decide)
    have hf : f_X1_standAt_68s (f_X1_standAt_68 (mFuel - 1)) b c v3 S2 = some o := hf
    unfold f_X1_standAt_68s at hf
    rcases m_ifE hf with ⟨-, hf⟩ | ⟨c2, hf⟩
    · cases hf
      exact g2
    · replace c2 := ti_ltN (a := v3) (b := (0 : Int32)) c2 rfl (show (0 : Int32).toInt = 0 from rfl)
      omega
  · exact absurd (by decide) c1
theorem zP_self3 {v : Nat} : zP (zsP S 3 23 (some v)) 3 23 = some v := by
  show va_up (zP S) 3 (va_up (zP S 3) 23 (some v)) 3 23 = some v
  rw [va_up_self, va_up_self]
/-- the last steps of a read: the text is gone, the game stands at its beginning -/
theorem rd_fin {S25 : ZS} (hg : GG g g') (C24 : CG S) (p324 : zP S 3 23 = some g') (G24 : GMc S g L st T r) (e25 : S25 = zsP S 7 1 (some g)) (hf : RDF S25 = some o) : o.1.toInt = 0 ∧ CG o.2 ∧ zP o.2 3 23 = some g' ∧ zP o.2 7 1 = some g ∧ TXc o.2 (fun _ => 0) 0 ∧ GMc o.2 g L st T r ∧ (zI o.2 8 1).toInt = 0 ∧ BO o.2 107 st := by
  have hb : (g = 35 ∧ g' = 99) ∨ (g = 99 ∧ g' = 35) := hg
  have hgr := gg_g hg
  have k1 : zK S 1 = 11 := fx_k C24.2.2.1 (by decide) (by decide)
  have kg : zK S g = 1 := (fx_g C24.2.2.1 hgr).1.1
  have T25 : ZT S25 := e25.symm ▸ zt_P C24.1 k1 (by decide) (Or.inr ⟨kg, rfl⟩) (by rcases hb with ⟨ee, -⟩ | ⟨ee, -⟩ <;> rw [ee] <;> decide)
  have C25 : CG S25 := cg_7 C24 T25 e25
  have G25 : GMc S25 g L st T r := gmc_e C24 hgr G24 (fun a _ _ => eqc_P e25 (by omega))
  have p725 : zP S25 7 1 = some g := by
    rw [e25]
    show va_up (zP S) 7 (va_up (zP S 7) 1 (some g)) 7 1 = some g
    rw [va_up_self, va_up_self]
  have p325 : zP S25 3 23 = some g' := by rw [(eqc_P e25 (show (23 : Nat) ≠ 1 by decide)).2.2.2.1]; exact p324
  have k125 : zK S25 1 = 11 := fx_k C25.2.2.1 (by decide) (by decide)
  have k225 : zK S25 2 = 6 := fx_k C25.2.2.1 (by decide) (by decide)
  have k2325 : zK S25 23 = 2 := fx_k C25.2.2.1 (by decide) (by decide)
  unfold RDF at hf
  obtain ⟨-, hf⟩ := m_chkE hf
  replace hf := m_calY hf (show zP S25 0 1 = some 2 from fx_p C25.2.2.1 (by decide))
  obtain ⟨-, hf⟩ := m_chkE hf
  obtain ⟨⟨r27, S27⟩, h_r27, hf⟩ := m_calE hf
  dsimp only at hf
  obtain ⟨w, hw⟩ := rwl_ex T25 k225
  obtain ⟨a1, a2, a3⟩ := p_keep hw (show (0 : Int) ≤ (0 : Int32).toInt by decide) h_r27
  rw [show (0 : Int32).toInt.toNat = 0 from rfl, List.take_zero] at a1
  have T27 : ZT S27 := by
    rcases a3 with a3 | a3
    · rw [a3]; exact T25
    · rw [a3]
      exact zt_I0 T25 k225 (fun _ => ⟨show (0 : Int) ≤ (0 : Int32).toInt by decide, show (0 : Int32).toInt ≤ _ by rw [hw.1]; exact Int.natCast_nonneg _⟩) (fun e => absurd e.1 (by decide)) (tf_b _)
  have F27 : FR (fun a => a = 2) S25 S27 := fr_r a2 k225
  have k127 : zK S27 1 = 11 := (fr_k F27 (by rw [k125]; decide)).trans k125
  obtain ⟨-, hf⟩ := m_chkE hf
  obtain ⟨-, hf⟩ := m_chkE hf
  obtain ⟨S28, e28, hf⟩ := m_bndE hf
  have T28 : ZT S28 := e28.symm ▸ zt_I T27 k127 (by decide) (show (0 : Int) ≤ (0 : Int32).toInt ∧ (0 : Int32).toInt ≤ (300 : Int) by decide)
  have F28 : FR (fun a => a = 2 ∨ a = 1) S25 S28 := fr_t (fr_m F27 (fun a _ e => Or.inl e)) (fr_m (fr_I e28) (fun a _ e => Or.inr e))
  have Z28 : TZ S28 := tz_k T25 C25.2.1 F28 (fun a _ e => by
    rcases e with e | e <;> rw [e]
    · rw [k225]; exact ⟨by decide, by decide, fun h => absurd h (by decide)⟩
    · rw [k125]; exact ⟨by decide, by decide, fun h => absurd h (by decide)⟩)
  have C28 : CG S28 := cg_w C25 T28 Z28 F28 (by decide) (by decide) (by decide) (by decide)
  have G28 : GMc S28 g L st T r := gmc_fr C25 hgr G25 F28 (by omega)
  have p728 : zP S28 7 1 = some g := ((F28 1 (by rw [k125]; decide)).1.2.2.1 (by rw [k125]; rfl) 7).trans p725
  have p328 : zP S28 3 23 = some g' := ((F28 23 (by rw [k2325]; decide)).1.2.2.1 (by rw [k2325]; rfl) 3).trans p325
  have R28 : RWL S28 2 [] := eqc_rl (fr_e (fr_I e28) (by rw [(fr_k F27 (by rw [k225]; decide)).trans k225]; decide) (show ¬ 2 = 1 by decide)) ((fr_k F27 (by rw [k225]; decide)).trans k225) a1
  obtain ⟨-, hf⟩ := m_chkE hf
  replace hf := m_calY hf p728
  obtain ⟨-, hf⟩ := m_chkE hf
  replace hf := m_calY hf (show zP S28 9 1 = some 107 from fx_p C28.2.2.1 (by decide))
  obtain ⟨-, hf⟩ := m_chkE hf
  obtain ⟨⟨r31, S31⟩, h_r31, hf⟩ := m_calE hf
  dsimp only at hf
  obtain ⟨⟨kg8, q0, -, -, -, q7⟩, -⟩ := fx_g C28.2.2.1 hgr
  have k107 : zK S28 107 = 0 := fx_k C28.2.2.1 (by decide) (by decide)
  have k108 : zK S28 108 = 14 := fx_k C28.2.2.1 (by decide) (by decide)
  obtain ⟨T31, F31, B31⟩ := p_stand0 T28 ⟨_, q7⟩ q0 k107 (fx_p C28.2.2.1 (by decide)) k108 G28.2.1 h_r31
  dsimp only at T31 F31 B31
  obtain ⟨-, hf⟩ := m_chkE hf
  cases hf
  have Z31 : TZ S31 := tz_k T28 C28.2.1 F31 (fun a _ e => by
    rcases e with e | e <;> rw [e]
    · rw [k107]; exact ⟨by decide, by decide, fun h => absurd h (by decide)⟩
    · rw [k108]; exact ⟨by decide, by decide, fun h => absurd h (by decide)⟩)
  have C31 : CG S31 := cg_w C28 T31 Z31 F31 (by decide) (by decide) (by decide) (by decide)
  have k128 : zK S28 1 = 11 := fx_k C28.2.2.1 (by decide) (by decide)
  have k228 : zK S28 2 = 6 := fx_k C28.2.2.1 (by decide) (by decide)
  have k2328 : zK S28 23 = 2 := fx_k C28.2.2.1 (by decide) (by decide)
  have e1 := fr_e F31 (show zK S28 1 < 18 by rw [k128]; decide) (by decide)
  have R31 := eqc_rl (fr_e F31 (show zK S28 2 < 18 by rw [k228]; decide) (by decide)) k228 R28
  refine ⟨rfl, C31, ((F31 23 (by rw [k2328]; decide)).1.2.2.1 (by rw [k2328]; rfl) 3).trans p328, (e1.2.2.2.1 7).trans p728, ⟨funext (fun i => ?_), R31.1, by decide, fun _ => ⟨Int.le_refl 0, show (0 : Int) ≤ 127 by decide⟩⟩, gmc_fr C28 hgr G28 F31 (by omega), ?_, B31⟩
  · rw [R31.2 i]
    exact wA_out (by show i < 0 ∨ (0 : Int) ≤ i; omega)
  · show (zI S31 8 1).toInt = 0
    rw [e1.2.2.1 8, e28, zI_self]
    rfl
/-- the class's read -/
theorem p_read (hC : CG S) (hg : GG g g') (p3 : zP S 3 23 = some g) (p7 : zP S 7 1 = some g') (hx : TXc S ch N) (hf : d_X11_read 1 S = some o) : (∃ L st T r, rdP ch N = some (L, st, T, r) ∧ o.1.toInt = 0 ∧ CG o.2 ∧ zP o.2 3 23 = some g' ∧ zP o.2 7 1 = some g ∧ TXc o.2 (fun _ => 0) 0 ∧ GMc o.2 g L st T r ∧ (zI o.2 8 1).toInt = 0 ∧ BO o.2 107 st) ∨ (rdP ch N = none ∧ CG o.2 ∧ FR (fun a => ¬ KPc (zsP S 2 23 (some 2)) g' a) (zsP S 2 23 (some 2)) o.2) := by
  have hf : d_X11_read_0 1 S = some o := hf
  have hb : (g = 35 ∧ g' = 99) ∨ (g = 99 ∧ g' = 35) := hg
  have hgr := gg_g hg
  have p5 : ∀ {S : ZS}, CG S → zP S 5 1 = some 23 := fun h => fx_p h.2.2.1 (by decide)
  have p0 : ∀ {S : ZS}, CG S → zP S 0 1 = some 2 := fun h => fx_p h.2.2.1 (by decide)
  have p9 : ∀ {S : ZS}, CG S → zP S 9 1 = some 107 := fun h => fx_p h.2.2.1 (by decide)
  obtain ⟨hc, hN, hn, hcb⟩ := hx
  unfold d_X11_read_0 at hf
  obtain ⟨-, hf⟩ := m_chkE hf
  replace hf := m_calY hf (p5 hC)
  obtain ⟨-, hf⟩ := m_chkE hf
  replace hf := m_calY hf (p0 hC)
  obtain ⟨-, hf⟩ := m_chkE hf
  obtain ⟨⟨r3, S3⟩, h_r3, hf⟩ := m_calE hf
  dsimp only at hf
  obtain ⟨CZ, H3⟩ := p_begin hC hg p3 hc hN hn hcb h_r3
  dsimp only at H3
  obtain ⟨-, hf⟩ := m_chkE hf
  obtain ⟨-, hf⟩ := m_chkE hf
  replace hf := m_calY hf (p5 H3.1)
  obtain ⟨-, hf⟩ := m_chkE hf
  obtain ⟨⟨r6, S7⟩, h_r6, hf⟩ := m_cal2E hf
  dsimp only at hf
  have fail : ∀ S9, rdP ch N = none → HSn (zsP S 2 23 (some 2)) S9 g' → d_X11_read_41 1 S9 = some o → (∃ L st T r, rdP ch N = some (L, st, T, r) ∧ o.1.toInt = 0 ∧ CG o.2 ∧ zP o.2 3 23 = some g' ∧ zP o.2 7 1 = some g ∧ TXc o.2 (fun _ => 0) 0 ∧ GMc o.2 g L st T r ∧ (zI o.2 8 1).toInt = 0 ∧ BO o.2 107 st) ∨ (rdP ch N = none ∧ CG o.2 ∧ FR (fun a => ¬ KPc (zsP S 2 23 (some 2)) g' a) (zsP S 2 23 (some 2)) o.2) := fun S9 hr hs hf => by
    unfold d_X11_read_41 at hf
    obtain ⟨-, hf⟩ := m_chkE hf
    replace hf := m_calY hf (p5 hs.1)
    obtain ⟨-, hf⟩ := m_chkE hf
    obtain ⟨⟨r2, S2⟩, h_r2, hf⟩ := m_calE hf
    dsimp only at hf
    have h2 : f_X2_fault_0 23 S9 = some (r2, S2) := h_r2
    unfold f_X2_fault_0 at h2
    obtain ⟨-, h2⟩ := m_chkE h2
    cases h2
    obtain ⟨-, hf⟩ := m_chkE hf
    cases hf
    exact Or.inr ⟨hr, hs.1, hs.2⟩
  rcases p_readHead H3 h_r6 with ⟨r, e, w, S1, a1, a2, a3, a4, a5, a6⟩ | ⟨a1, a2, a3⟩
  · dsimp only at a4 a5 a6
    have a3 : rmkP ch N 2001 (blk ch r.1) [] = some (e, w) := a3
    rcases m_ifE hf with ⟨c1, hf⟩ | ⟨-, hf⟩
    · rw [c1] at a4; exact absurd a4 (by decide)
    · obtain ⟨-, hf⟩ := m_chkE hf
      replace hf := m_calY hf (p5 a5.1)
      obtain ⟨-, hf⟩ := m_chkE hf
      obtain ⟨⟨r12, S13⟩, h_r12, hf⟩ := m_cal2E hf
      dsimp only at hf
      rcases p_readMoves a5 a6 h_r12 with ⟨e2, T', b1, b2, b3, b4⟩ | ⟨b1, b2, b3⟩
      · dsimp only at b2 b3
        rcases m_ifE hf with ⟨c1, hf⟩ | ⟨-, hf⟩
        · rw [c1] at b2; exact absurd b2 (by decide)
        · have M := ms_of a2 b3
          obtain ⟨-, hf⟩ := m_chkE hf
          replace hf := m_calY hf (p5 M.1)
          obtain ⟨-, hf⟩ := m_chkE hf
          obtain ⟨⟨r18, S19⟩, h_r18, hf⟩ := m_cal2E hf
          dsimp only at hf
          rcases p_readEnd M h_r18 with ⟨d1, d2, d3, d4, d5⟩ | ⟨d1, d2, d3⟩
          · dsimp only at d3 d4 d5
            rcases m_ifE hf with ⟨c1, hf⟩ | ⟨-, hf⟩
            · rw [c1] at d3; exact absurd d3 (by decide)
            · have hR : rdP ch N = some (r.2.1, r.2.2, T', rsV ch e2) := by
                unfold rdP
                simp only [a1, a3, b1]
                exact if_pos ⟨d1, d2⟩
              obtain ⟨c19, ⟨-, -, F19⟩, ⟨l19, -, p319⟩, tr19, bo19, tg19, lb19⟩ := d4
              have k1 : zK S19 1 = 11 := fx_k c19.2.2.1 (by decide) (by decide)
              have k23 : zK S19 23 = 2 := fx_k c19.2.2.1 (by decide) (by decide)
              have k2 : zK S19 2 = 6 := fx_k c19.2.2.1 (by decide) (by decide)
              have k1S : zK (zsP S 2 23 (some 2)) 1 = 11 := fx_k CZ.2.2.1 (by decide) (by decide)
              have p719 : zP S19 7 1 = some g' := by
                rw [(F19 1 (by rw [k1S]; decide)).1.2.2.1 (by rw [k1S]; rfl) 7]
                show va_up (zP S) 2 (va_up (zP S 2) 23 (some 2)) 7 1 = some g'
                rw [va_up_ne _ _ (by decide)]
                exact p7
              have kg' : zK S19 g' = 1 := (fx_g c19.2.2.1 (gg_g (gg_s hg))).1.1
              obtain ⟨-, hf⟩ := m_chkE hf
              replace hf := m_calY hf (p5 c19)
              obtain ⟨-, hf⟩ := m_chkE hf
              replace hf := m_calY hf p719
              obtain ⟨-, hf⟩ := m_chkE hf
              obtain ⟨⟨r24, S24⟩, h_r24, hf⟩ := m_calE hf
              dsimp only at hf
              have T24 : ZT S24 := (ok_of (t_f_X2_exchange (SZ := S19) c19.1 (a7_0 S19) k23 kg' (by rcases hb with ⟨-, ee⟩ | ⟨-, ee⟩ <;> rw [ee] <;> decide)) h_r24).1
              have h24 : f_X2_exchange_0 23 g' S19 = some (r24, S24) := h_r24
              unfold f_X2_exchange_0 at h24
              obtain ⟨-, h24⟩ := m_chkE h24
              replace h24 := m_calY h24 p319
              obtain ⟨-, h24⟩ := m_chkE h24
              obtain ⟨Sx, ex, h24⟩ := m_bndE h24
              have i24 := Option.some.inj h24
              have i1 : g = r24 := congrArg Prod.fst i24
              have i2 : Sx = S24 := congrArg Prod.snd i24
              rw [← i1] at hf
              rw [i2] at ex
              have C24 : CG S24 := cg_p c19 (Or.inr rfl) T24 ex
              obtain ⟨-, hf⟩ := m_chkE hf
              obtain ⟨-, hf⟩ := m_chkE hf
              obtain ⟨S25, e25, hf⟩ := m_bndE hf
              exact Or.inl ⟨_, _, _, _, hR, rd_fin hg C24 (by rw [ex]; exact zP_self3) (gmc_e c19 hgr ⟨tr19, bo19, tg19, lb19, d5⟩ (fun a _ _ => eqc_P ex (by omega))) e25 hf⟩
          · dsimp only at d2 d3
            rcases m_ifE hf with ⟨-, hf⟩ | ⟨c1, hf⟩
            · refine fail S19 ?_ d3 hf
              unfold rdP
              simp only [a1, a3, b1]
              exact if_neg d1
            · exact absurd (i32_of d2) c1
      · dsimp only at b2 b3
        rcases m_ifE hf with ⟨-, hf⟩ | ⟨c1, hf⟩
        · refine fail S13 ?_ (hn_of a2 b3) hf
          unfold rdP
          simp only [a1, a3, b1]
        · exact absurd (i32_of b2) c1
  · dsimp only at a2 a3
    rcases m_ifE hf with ⟨-, hf⟩ | ⟨c1, hf⟩
    · refine fail S7 ?_ a3 hf
      unfold rdP
      rcases a1 with a1 | ⟨r, a1, a4⟩
      · simp only [a1]
      · have a4 : rmkP ch N 2001 (blk ch r.1) [] = none := a4
        simp only [a1, a4]
    · exact absurd (i32_of a2) c1
end RDC
