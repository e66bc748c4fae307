section
/-- an empty tree -/
noncomputable def T00 : TRa := (0, fun _ => -1, fun _ => -1, fun _ => [], fun _ => [], fun _ => [])
theorem wt_00 : WT T00 := ⟨Nat.zero_le _, fun k k1 k2 => absurd (show k ≤ 0 from k2) (by omega), fun _ => ⟨Nat.zero_le _, Nat.zero_le _⟩, rfl, rfl⟩
section BEG
variable {S S' : ZS} {g g' : Nat} {ch : Int → Int} {N : Int} {o : Int32 × ZS}
theorem fx_23 : ∀ t ∈ fxL, ¬ (t.1 = 23 ∧ (t.2.1 = 2 ∨ t.2.1 = 3)) := by decide
/-- the reader's text or game changes -/
theorem cg_p {j v : Nat} (h : CG S) (hj : j = 2 ∨ j = 3) (hT : ZT S') (e : S' = zsP S j 23 (some v)) : CG S' := by
  obtain ⟨hT0, hZ, hX, h35, h99, hd⟩ := h
  have k23 : zK S 23 = 2 := hX.1 23 (by decide) (by decide)
  have P' : ∀ i a, ¬ (a = 23 ∧ i = j) → zP S' i a = zP S i a := fun i a hn => by
    rw [e]
    show va_up (zP S) j (va_up (zP S j) 23 (some v)) i a = zP S i a
    by_cases ei : i = j
    · rw [ei, va_up_self]
      exact va_up_ne _ _ (fun ea => hn ⟨ea, ei⟩)
    · rw [va_up_ne _ _ ei]
  have K' : zK S' = zK S := by rw [e]; rfl
  have B' : zB S' = zB S := by rw [e]; rfl
  have I' : zI S' = zI S := by rw [e]; rfl
  have N' : zN S' = zN S := by rw [e]; rfl
  have k2 : ∀ a, zK S a ≠ 2 → a ≠ 23 := fun a ha ea => ha (by rw [ea]; exact k23)
  have gm : ∀ g, GM S g → GM S' g := fun g hm => by
    refine ⟨fun i a ha => ?_, fun i a ha => ?_⟩
    · rw [B'] at ha
      obtain ⟨a1, a2, a3, a4⟩ := hm.1 i a ha
      rw [K', P' 6 a (fun z => by omega)]
      exact ⟨a1, a2, a3, a4⟩
    · rw [B'] at ha
      obtain ⟨a1, a2, a3, a4, a5, a6⟩ := hm.2 i a ha
      rw [K', P' 0 a (fun z => by omega), P' 1 a (fun z => by omega)]
      exact ⟨a1, a2, a3, a4, a5, a6⟩
  refine ⟨hT, tz_x hT0 hZ (fun a _ => by rw [K']) (fun a i ha _ => P' i a (fun z => k2 a (by omega) z.1)) (fun a _ => by rw [B']) (fun a _ => by rw [I']; exact ⟨rfl, rfl, rfl⟩) (fun a _ => by rw [I']), ⟨?_, ?_, ?_, ?_, ?_, ?_⟩, gm 35 h35, gm 99 h99, ?_⟩
  · rw [K']; exact hX.1
  · intro t ht
    rw [P' t.2.1 t.1 (fun z => fx_23 t ht ⟨z.1, by rw [z.2]; exact hj⟩)]
    exact hX.2.1 t ht
  · intro d hd
    rw [P' 0 _ (fun z => by omega)]; exact hX.2.2.1 d hd
  · intro d hd
    rw [P' 0 _ (fun z => by omega)]; exact hX.2.2.2.1 d hd
  · rw [B']; exact hX.2.2.2.2.1
  · rw [N']; exact hX.2.2.2.2.2
  · intro q q' hq
    rw [B']; exact hd q q' hq
/-- the reader begins -/
theorem p_begin (hC : CG S) (hg : GG g g') (p3 : zP S 3 23 = some g) (hch : rwC S 2 = ch) (hN : (zI S 1 2).toInt = N) (hn : 0 ≤ N ∧ N ≤ 2000) (hcb : ∀ i, 0 ≤ ch i ∧ ch i ≤ 127) (hf : f_X2_begin 23 2 S = some o) : CG (zsP S 2 23 (some 2)) ∧ HSt (zsP S 2 23 (some 2)) o.2 g g' ch N 0 st00 [] T00 := by
  have hb : (g = 35 ∧ g' = 99) ∨ (g = 99 ∧ g' = 35) := hg
  have hgr := gg_g hg
  have k23 : zK S 23 = 2 := fx_k hC.2.2.1 (by decide) (by decide)
  have k2 : zK S 2 = 6 := fx_k hC.2.2.1 (by decide) (by decide)
  obtain ⟨Tf, Af, -⟩ := ok_of (t_f_X2_begin (SZ := S) hC.1 (a7_0 S) k23 k2 (by decide)) hf
  have Zf : TZ o.2 := (rp_begin (y := o.1) (S' := o.2) (rp_0 S) hC.1 k23 k2 (by decide) Af hf).2.1 hC.2.1
  have hf : f_X2_begin_0 23 2 S = some o := hf
  unfold f_X2_begin_0 at hf
  obtain ⟨-, hf⟩ := m_chkE hf
  obtain ⟨S1, e_S1, hf⟩ := m_bndE hf
  have T1 : ZT S1 := e_S1.symm ▸ zt_P hC.1 k23 (by decide) (Or.inr ⟨k2, rfl⟩) ⟨Nat.zero_le _, by decide⟩
  have C1 : CG S1 := cg_p hC (Or.inl rfl) T1 e_S1
  have p31 : zP S1 3 23 = some g := by
    rw [e_S1]
    show va_up (zP S) 2 (va_up (zP S 2) 23 (some 2)) 3 23 = some g
    rw [va_up_ne _ _ (by decide)]
    exact p3
  have p21 : zP S1 2 23 = some 2 := by
    rw [e_S1]
    show va_up (zP S) 2 (va_up (zP S 2) 23 (some 2)) 2 23 = some 2
    rw [va_up_self, va_up_self]
  have c1 : rwC S1 2 = ch := by
    rw [← hch, e_S1]
    funext i
    unfold rwC
    have e0 : zP (zsP S 2 23 (some 2)) 0 2 = zP S 0 2 := by
      show va_up (zP S) 2 (va_up (zP S 2) 23 (some 2)) 0 2 = _
      rw [va_up_ne _ _ (by decide)]
    rw [e0]
    rfl
  have n1 : (zI S1 1 2).toInt = N := by rw [e_S1]; exact hN
  obtain ⟨⟨kg, p0, p1, p2, p4, p7⟩, ⟨kb, ka, k3, k4, k5, k6, k7⟩, pb, p6⟩ := fx_g C1.2.2.1 hgr
  rw [← e_S1]
  have k231 : zK S1 23 = 2 := by rw [e_S1]; exact k23
  have k21 : zK S1 2 = 6 := by rw [e_S1]; exact k2
  obtain ⟨-, hf⟩ := m_chkE hf
  replace hf := m_calY hf p31
  obtain ⟨-, hf⟩ := m_chkE hf
  obtain ⟨⟨r3, S3c⟩, h_r3, hf⟩ := m_calE hf
  dsimp only at hf
  have h3 : f_X1_wipe_0 g S1 = some (r3, S3c) := h_r3
  obtain ⟨-, hf⟩ := m_chkE hf
  obtain ⟨S4, e_S4, hf⟩ := m_bndE hf
  obtain ⟨-, hf⟩ := m_chkE hf
  obtain ⟨S5, e_S5, hf⟩ := m_bndE hf
  cases hf
  try dsimp only
  have key : ∃ S2 S4 Sa Sb y2 y4, f_X0_setUp (g + 1) S1 = some (y2, S2) ∧ f_X4_become (g + 3) (-1) (-1) S2 = some (y4, S4) ∧ Sa = zsI S4 3 g 0 ∧ Sb = zsI Sa 5 g 0 ∧ S3c = zsI Sb 6 g 0 := by
    unfold f_X1_wipe_0 at h3
    obtain ⟨-, h3⟩ := m_chkE h3
    replace h3 := m_calY h3 p0
    obtain ⟨-, h3⟩ := m_chkE h3
    obtain ⟨⟨y2, S2⟩, s2, h3⟩ := m_calE h3
    dsimp only at h3
    have q2 := (p_setUp kb pb ka s2).1
    dsimp only at q2
    obtain ⟨-, h3⟩ := m_chkE h3
    replace h3 := m_calY h3 (show zP S2 1 g = some (g + 3) by rw [q2.2.1]; exact p1)
    obtain ⟨-, h3⟩ := m_chkE h3
    obtain ⟨⟨y4, S4'⟩, s4, h3⟩ := m_calE h3
    dsimp only at h3
    obtain ⟨-, h3⟩ := m_chkE h3
    obtain ⟨Sa, ea, h3⟩ := m_bndE h3
    obtain ⟨-, h3⟩ := m_chkE h3
    obtain ⟨Sb, eb, h3⟩ := m_bndE h3
    obtain ⟨-, h3⟩ := m_chkE h3
    obtain ⟨Sc, ec, h3⟩ := m_bndE h3
    cases h3
    exact ⟨S2, S4', Sa, Sb, y2, y4, s2, s4, ea, eb, ec⟩
  obtain ⟨S2, Sd, Sa, Sb, y2, y4, s2, s4, ea, eb, ec⟩ := key
  obtain ⟨q2, B2⟩ := p_setUp kb pb ka s2
  dsimp only at q2 B2
  have T2 : ZT S2 := (ok_of (t_f_X0_setUp (SZ := S1) T1 (a7_0 S1) kb) s2).1
  have F2 := fr_b T1 ka q2
  have k32 : zK S2 (g + 3) = 4 := (fr_k F2 (by rw [k3]; decide)).trans k3
  have k42 : zK S2 (g + 4) = 6 := (fr_k F2 (by rw [k4]; decide)).trans k4
  have p62 : zP S2 6 (g + 3) = some (g + 4) := by rw [q2.2.1]; exact p6
  obtain ⟨Td, Fd, ⟨i0, i1, i2, i3⟩, nm, rw4⟩ := p_become T2 k32 p62 k42 s4
  dsimp only at Td Fd i0 i1 i2 i3 nm rw4
  have Fe : FR (fun a => a = g) Sd S3c := fr_t (fr_I ea) (fr_t (fr_I eb) (fr_I ec))
  have Fz : FR (fun a => a = 23) S3c S5 := fr_t (fr_I e_S4) (fr_I e_S5)
  have F : FR (fun a => a = 23 ∨ (g ≤ a ∧ a ≤ g + 4)) S1 S5 := fr_t (fr_m F2 (fun a _ e => by omega)) (fr_t (fr_m Fd (fun a _ e => by omega)) (fr_t (fr_m Fe (fun a _ e => by omega)) (fr_m Fz (fun a _ e => by omega))))
  have C5 : CG S5 := cg_w C1 Tf Zf F (by omega) (by omega) (by omega) (by omega)
  have I5 : ∀ j a, a ≠ 23 → zI S5 j a = zI S3c j a := fun j a ha => by rw [e_S5, zI_b ha, e_S4, zI_b ha]
  have Ig : ∀ j a, a ≠ g → zI S3c j a = zI Sd j a := fun j a ha => by rw [ec, zI_b ha, eb, zI_b ha, ea, zI_b ha]
  have J : ∀ j a, a ≠ 23 → a ≠ g → zI S5 j a = zI Sd j a := fun j a h1 h2 => (I5 j a h1).trans (Ig j a h2)
  have g3 : zI S5 3 g = 0 := by rw [I5 3 g (by omega), ec, zI_j (by decide), eb, zI_j (by decide), ea, zI_self]
  have g5 : zI S5 5 g = 0 := by rw [I5 5 g (by omega), ec, zI_j (by decide), eb, zI_self]
  have F' : FR (fun a => ¬ KPc S1 g' a) S1 S5 := fr_m F (fun a _ e => kp_fix C1 hg fr_0 C1.2.2.1 (by omega))
  have nk0 : nk S5 (g + 3) (g + 5) 0 = g + 3 := rfl
  have kbd : zK Sd (g + 1) = 0 := (fr_k Fd (by rw [B2.1.1]; decide)).trans B2.1.1
  have Fy : FR (fun a => a = 23 ∨ a = g) Sd S5 := fr_t (fr_m Fe (fun a _ e => Or.inr e)) (fr_m Fz (fun a _ e => Or.inl e))
  have Bd : BO Sd (g + 1) st00 := bo_fr B2 Fd (by omega) (by omega)
  have k4d : zK Sd (g + 4) = 6 := (fr_k Fd (by rw [k42]; decide)).trans k42
  refine ⟨C1, C5, ⟨hg, C1.2.2.1, F'⟩, ⟨?_, hn.1, ((F 23 (by rw [k231]; decide)).1.2.2.1 (by rw [k231]; rfl) 3).trans p31⟩, ⟨⟨?_, ?_, ?_, ?_⟩, wt_00, rfl⟩, ⟨bo_fr Bd Fy (by omega) (by omega), pgd_00, by decide, by decide⟩, ⟨by rw [g5]; rfl, Nat.zero_le _, fun i hi => absurd hi (Nat.not_lt_zero _)⟩, fun i i0 i1 => absurd (show i < 0 from i1) (by omega)⟩
  · have e2 := fr_e F (by rw [k21]; decide) (show ¬ (2 = 23 ∨ (g ≤ 2 ∧ 2 ≤ g + 4)) by omega)
    exact ⟨Tf, ⟨(fr_k F (by rw [k231]; decide)).trans k231, ((F 23 (by rw [k231]; decide)).1.2.2.1 (by rw [k231]; rfl) 2).trans p21, e2.1.trans k21⟩, ⟨by rw [eqc_rw e2 k21]; exact c1, by rw [e2.2.2.1]; exact n1, hn⟩, hcb, by rw [e_S5, zI_j (by decide), e_S4, zI_self]; rfl, by decide, by decide⟩
  · unfold cn
    rw [g3]; rfl
  · intro k k1 k2
    have k2 : k ≤ 0 := k2
    omega
  · intro q hq
    have q0 : q = 0 := Nat.le_zero.1 hq
    subst q0
    refine ⟨?_, List.nodup_nil, fun k => ⟨(fun hk => by cases hk), fun ⟨k1, k2, _⟩ => absurd (show k ≤ 0 from k2) (by omega)⟩⟩
    show (zI S5 2 (g + 3)).toInt = -1
    rw [J 2 (g + 3) (by omega) (by omega), i2]
    rfl
  · intro k hk
    have k0 : k = 0 := Nat.le_zero.1 hk
    subst k0
    refine ⟨⟨?_, ?_⟩, ⟨?_, ?_⟩, ?_⟩
    · show (zI S5 0 (g + 3)).toInt = -1
      rw [J 0 (g + 3) (by omega) (by omega), i0]; rfl
    · show (zI S5 1 (g + 3)).toInt = -1
      rw [J 1 (g + 3) (by omega) (by omega), i1]; rfl
    · show (zI S5 4 (g + 3)).toInt = _
      rw [J 4 (g + 3) (by omega) (by omega)]; exact nm.1
    · show zI S5 5 (g + 3) = _
      rw [J 5 (g + 3) (by omega) (by omega)]; exact nm.2
    · have hr : RWL S5 (g + 4) [] := eqc_rl (fr_e Fy (by rw [k4d]; decide) (by omega)) k4d rw4
      exact hr
end BEG
end
section
/-- how long the sign of a result is -/
noncomputable def rsN (r : Int) : Int := ((strL (rsS r)).length : Int)
theorem rsN_v (r : Int) : rsN r = if r = 1 then 3 else if r = 2 then 3 else if r = 3 then 7 else 1 := by
  have a3 : ((strL 3).length : Int) = 3 := by decide
  have a4 : ((strL 4).length : Int) = 3 := by decide
  have a5 : ((strL 5).length : Int) = 7 := by decide
  have a6 : ((strL 6).length : Int) = 1 := by decide
  unfold rsN rsS
  split
  · exact a3
  · split
    · exact a4
    · split
      · exact a5
      · exact a6
theorem rsN_b (r : Int) : 1 ≤ rsN r ∧ rsN r ≤ 7 := by
  rw [rsN_v]
  split
  · omega
  · split
    · omega
    · split <;> omega
section RDE
variable {S0 S S' : ZS} {g g' : Nat} {ch : Int → Int} {N p q : Int} {st : PO} {L : List (List Int × List Int)} {T : TRa} {o : Int32 × ZS} {W : Nat → Prop}
theorem ms_n (h : MSt S0 S g g' ch N p st L T) : HSn S0 S g' := ⟨h.1, h.2.1.2.2⟩
theorem ms_rd (h : MSt S0 S g g' ch N p st L T) (hL : LW S' ch N q) (hq : q ≤ N) (hF : FR W S S') (hW : ∀ a, W a → WRd a) : MSt S0 S' g g' ch N q st L T := by
  obtain ⟨c, ⟨hg, hX, hF0⟩, ⟨l, -, p3⟩, ⟨tr, hw, h0⟩, bo, tg, lb⟩ := h
  have hb : (g = 35 ∧ g' = 99) ∨ (g = 99 ∧ g' = 35) := hg
  have nw : ∀ a, ¬ WRd a → ¬ W a := fun a hn hw => hn (hW a hw)
  have k23 := l.2.1.1
  have kl := fun a h1 h2 => fx_l (a := a) c.2.2.1 h1 h2
  refine ⟨cg_rd c hL.1 hF hW, ⟨hg, hX, fr_t hF0 (fr_m hF (fun a _ ha => kp_fix c hg hF0 hX (by have := hW a ha; unfold WRd at this; omega)))⟩, ⟨hL, hq, ((hF 23 (by rw [k23]; decide)).1.2.2.1 (by rw [k23]; rfl) 3).trans p3⟩, ⟨trc_e c (gg_g hg) tr (fun a ha => fr_e hF (tc_lt c (gg_g hg) ha) (nw a (tc_wr c (gg_g hg) ha))), hw, h0⟩, bo_fr bo hF (nw _ (by unfold WRd; omega)) (nw _ (by unfold WRd; omega)), tgk_fr c (gg_g hg) tg hF ((fr_e hF (kl g (by omega) (by omega)) (nw _ (by unfold WRd; omega))).2.2.1 5) (nw _ (by unfold WRd; omega)) (fun i t ht => ?_), lb⟩
  have := ((gm_of c (gg_g hg)).2 i t ht).1
  exact ⟨nw _ (by unfold WRd; omega), nw _ (by unfold WRd; omega)⟩
/-- the game's result is set -/
theorem ms_6 {v : Int32} (h : MSt S0 S g g' ch N p st L T) (e : S' = zsI S 6 g v) : MSt S0 S' g g' ch N p st L T ∧ zI S' 6 g = v := by
  obtain ⟨c, ⟨hg, hX, hF0⟩, ⟨l, hpN, p3⟩, ⟨tr, hw, h0⟩, bo, tg, lb⟩ := h
  have hb : (g = 35 ∧ g' = 99) ∨ (g = 99 ∧ g' = 35) := hg
  have hgr := gg_g hg
  obtain ⟨⟨kg, -⟩, ⟨kb, ka, k3, k4, k5, k6, -⟩, pb, -⟩ := fx_g c.2.2.1 hgr
  have G := gm_of c hgr
  have F : FR (fun a => a = g) S S' := fr_I e
  have T' : ZT S' := e.symm ▸ zt_W c.1 kg (by decide) rfl
  have K' : zK S' = zK S := by rw [e]; rfl
  have B' : zB S' = zB S := by rw [e]; rfl
  have P' : zP S' = zP S := by rw [e]; rfl
  have Z' : TZ S' := tz_x c.1 c.2.1 (fun a _ => by rw [K']) (fun a i _ _ => by rw [P']) (fun a _ => by rw [B']) (fun a ha => by
    have ne : a ≠ g := fun ea => by rw [ea, kg] at ha; omega
    rw [e, zI_b ne, zI_b ne, zI_b ne]
    exact ⟨rfl, rfl, rfl⟩) (fun a _ => by rw [e, zI_j (by decide)])
  have C' : CG S' := cg_w c T' Z' F (by omega) (by omega) (by omega) (by omega)
  have k23 := l.2.1.1
  refine ⟨⟨C', ⟨hg, hX, fr_t hF0 (fr_m F (fun a _ ea => by rw [ea]; exact kp_fix c hg hF0 hX (by omega)))⟩, ⟨lw_nd l T' F (by omega) (by omega), hpN, by rw [P']; exact p3⟩, ⟨trc_g c hgr tr (by rw [e, zI_j (by decide)]) (fun a ha hne => fr_e F (tc_lt c hgr ha) hne), hw, h0⟩, bo_fr bo F (by omega) (by omega), tgk_fr c hgr tg F (by rw [e, zI_j (by decide)]) (by omega) (fun i t ht => ?_), lb⟩, by rw [e, zI_self]⟩
  have := (G.2 i t ht).1
  omega
/-- the class's end of a game -/
theorem p_readEnd (h : MSt S0 S g g' ch N p st L T) (hf : d_X2_readEnd 23 S = some o) : (AGr L (rsV ch p) ∧ blk ch (p + rsN (rsV ch p)) = N ∧ o.1.toInt = 1 ∧ MSt S0 o.2 g g' ch N N st L T ∧ (zI o.2 6 g).toInt = rsV ch p) ∨ (¬ (AGr L (rsV ch p) ∧ blk ch (p + rsN (rsV ch p)) = N) ∧ o.1.toInt = 0 ∧ HSn S0 o.2 g') := by
  have hf : d_X2_readEnd_0 23 S = some o := hf
  obtain ⟨c, ⟨hg, hX, hF0⟩, ⟨l, hpN, p3⟩, -, -, tg, lb⟩ := id h
  have hb : (g = 35 ∧ g' = 99) ∨ (g = 99 ∧ g' = 35) := hg
  have hgr := gg_g hg
  obtain ⟨-, ⟨k23, p2, k2⟩, ⟨hc, hN, hn⟩, hcb, h4, hp⟩ := id l
  have z0 : (0 : Int32).toInt = 0 := rfl
  have nb := rsN_b (rsV ch p)
  unfold d_X2_readEnd_0 at hf
  obtain ⟨-, hf⟩ := m_chkE hf
  obtain ⟨r1, h_r1, hf⟩ := m_calR hf (fun _ h => ro_X2_resultHere h)
  dsimp only at hf
  obtain ⟨-, q1⟩ := p_resultHere l h_r1
  dsimp only at q1
  obtain ⟨-, hf⟩ := m_chkE hf
  obtain ⟨-, hf⟩ := m_chkE hf
  replace hf := m_calY hf p3
  obtain ⟨-, hf⟩ := m_chkE hf
  obtain ⟨⟨r4, S5⟩, h_r4, hf⟩ := m_cal2E hf
  dsimp only at hf
  obtain ⟨e5, b4, q4⟩ := p_agrees c.1 (tgk_c c hgr tg) lb h_r4
  dsimp only at e5 b4 q4
  rw [q1] at q4
  rw [e5] at hf
  rcases m_ifE hf with ⟨c1, hf⟩ | ⟨c1, hf⟩
  · skip
    replace c1 := ti_eqP (a := r4) (b := (0 : Int32)) c1 rfl (show (0 : Int32).toInt = 0 from rfl)
    obtain ⟨-, hf⟩ := m_chkE hf
    obtain ⟨-, hf⟩ := m_chkE hf
    obtain ⟨⟨r18, S18c⟩, h_r18, hf⟩ := m_calE hf
    dsimp only at hf
    obtain ⟨g1, g2, g3⟩ := hn_no (x1 := 9) (ms_n h) hg hX (by decide) (by omega) l h_r18
    dsimp only at g1 g2 g3
    obtain ⟨-, hf⟩ := m_chkE hf
    obtain ⟨-, hf⟩ := m_chkE hf
    cases hf
    try dsimp only
    refine Or.inr ⟨fun hh => ?_, g1, g2⟩
    have := q4.2 hh.1
    omega
  · skip
    replace c1 := ti_eqN (a := r4) (b := (0 : Int32)) c1 rfl (show (0 : Int32).toInt = 0 from rfl)
    obtain ⟨-, hf⟩ := m_chkE hf
    replace hf := m_calY hf p3
    obtain ⟨-, hf⟩ := m_chkE hf
    obtain ⟨S9, e_S9, hf⟩ := m_bndE hf
    obtain ⟨M9, i9⟩ := ms_6 h e_S9
    have l9 := M9.2.2.1.1
    have h49 := l9.2.2.2.2.1
    obtain ⟨-, hf⟩ := m_chkE hf
    obtain ⟨r10, h_r10, hf⟩ := m_calR hf (fun _ h => ro_X11_resultSign h)
    dsimp only at hf
    obtain ⟨q10, -⟩ := p_resultSign h_r10
    dsimp only at q10
    rw [q10] at hf
    obtain ⟨-, hf⟩ := m_chkE hf
    obtain ⟨-, hf⟩ := m_chkE hf
    obtain ⟨r11, h_r11, hf⟩ := m_calR hf (fun _ h => ro_J0_length_8abf5 h)
    dsimp only at hf
    have p_r11 := pc_J0_length_8abf5 h_r11
    dsimp only at p_r11
    have q11 : r11.toInt = rsN (rsV ch p) := by rw [p_r11.2, q1]; rfl
    obtain ⟨-, hf⟩ := m_chkE hf
    obtain ⟨v12, e_v12, hf⟩ := m_bndE hf
    have t_v12 : v12.toInt = (zI S9 4 23).toInt + r11.toInt := ti_add e_v12 rfl rfl (by omega) (by omega)
    obtain ⟨-, hf⟩ := m_chkE hf
    obtain ⟨S13, e_S13, hf⟩ := m_bndE hf
    have l13 : LW S13 ch N (p + rsN (rsV ch p)) := lw_at l9 e_S13 (by omega) (by omega)
    obtain ⟨-, hf⟩ := m_chkE hf
    obtain ⟨⟨r14, S14c⟩, h_r14, hf⟩ := m_calE hf
    dsimp only at hf
    obtain ⟨b1, b2, b3, b4'⟩ := lw_bl l13 h_r14
    dsimp only at b2 b3
    have b11 := b1.1
    have F14 : FR (fun a => a = 23) S9 S14c := fr_t (fr_I e_S13) b3
    have p214 := b2.2.1.2.1
    have h414 := b2.2.2.2.2.1
    have hN14 := b2.2.2.1.2.1
    have i614 : zI S14c 6 g = r1 := by
      rw [(fr_e F14 (fx_l M9.1.2.2.1 (by omega) (by omega)) (show ¬ g = 23 by omega)).2.2.1]
      exact i9
    obtain ⟨-, hf⟩ := m_chkE hf
    obtain ⟨-, hf⟩ := m_chkE hf
    obtain ⟨-, hf⟩ := m_chkE hf
    replace hf := m_calY hf p214
    obtain ⟨-, hf⟩ := m_chkE hf
    obtain ⟨r16, h_r16, hf⟩ := m_calR hf (fun _ h => ro_X6_size h)
    dsimp only at hf
    have p_r16 := pc_X6_size h_r16
    dsimp only at p_r16
    have q16 : r16.toInt = N := by rw [p_r16]; exact hN14
    obtain ⟨-, hf⟩ := m_chkE hf
    rcases m_ifE hf with ⟨c2, hf⟩ | ⟨c2, hf⟩
    · skip
      replace c2 := ti_eqP (a := (zI S14c 4 23)) (b := r16) c2 rfl rfl
      unfold d_X2_readEnd_81 d_X2_readEnd_86 at hf
      obtain ⟨-, hf⟩ := m_chkE hf
      cases hf
      have eN : blk ch (p + rsN (rsV ch p)) = N := by omega
      rw [eN] at b2
      exact Or.inl ⟨q4.1 (by omega), eN, rfl, ms_rd M9 b2 (Int.le_refl _) F14 (fun a ha => by unfold WRd; omega), by show (zI S14c 6 g).toInt = _; rw [i614]; exact q1⟩
    · skip
      replace c2 := ti_eqN (a := (zI S14c 4 23)) (b := r16) c2 rfl rfl
      obtain ⟨-, hf⟩ := m_chkE hf
      obtain ⟨-, hf⟩ := m_chkE hf
      obtain ⟨⟨r17, S17c⟩, h_r17, hf⟩ := m_calE hf
      dsimp only at hf
      obtain ⟨g1, g2, g3⟩ := hn_no (x1 := 1) (hn_rd (ms_n M9) hg hX b2.1 F14 (fun a ha => by unfold WRd; omega)) hg hX (by decide) (by omega) b2 h_r17
      dsimp only at g1 g2 g3
      obtain ⟨-, hf⟩ := m_chkE hf
      rcases m_ifE hf with ⟨c3, hf⟩ | ⟨c3, hf⟩
      · skip
        replace c3 := ti_eqP (a := r17) (b := (0 : Int32)) c3 rfl (show (0 : Int32).toInt = 0 from rfl)
        unfold d_X2_readEnd_86 at hf
        obtain ⟨-, hf⟩ := m_chkE hf
        cases hf
        exact Or.inr ⟨fun hh => by have := hh.2; omega, rfl, g2⟩
      · skip
        replace c3 := ti_eqN (a := r17) (b := (0 : Int32)) c3 rfl (show (0 : Int32).toInt = 0 from rfl)
        omega
/-- a text read: tags, first position, tree, result -/
noncomputable def rdP (ch : Int → Int) (N : Int) : Option (List (List Int × List Int) × PO × TRa × Int) :=
  match hdP ch N 9 (blk ch 0) [] st00 with
  | none => none
  | some r => match rmkP ch N 2001 (blk ch r.1) [] with
    | none => none
    | some (e, w) => match mach ch N r.2.2 2001 e [(0, 0)] (rkT T00 0 w) with
      | none => none
      | some (e2, T') => @ite _ (AGr r.2.1 (rsV ch e2) ∧ blk ch (e2 + rsN (rsV ch e2)) = N) (Classical.propDecidable _) (some (r.2.1, r.2.2, T', rsV ch e2)) none
end RDE
end
section
/-- a game of the class, whole -/
noncomputable def GMc (S : ZS) (g : Nat) (L : List (List Int × List Int)) (st : PO) (T : TRa) (r : Int) : Prop := (TRc S g T ∧ WT T ∧ LTr st T) ∧ BO S (g + 1) st ∧ TGk S g L ∧ LBd L ∧ (zI S 6 g).toInt = r
/-- the class's text -/
noncomputable def TXc (S : ZS) (ch : Int → Int) (N : Int) : Prop := rwC S 2 = ch ∧ (zI S 1 2).toInt = N ∧ (0 ≤ N ∧ N ≤ 2000) ∧ ∀ i, 0 ≤ ch i ∧ ch i ≤ 127
/-- what read does once the game is exchanged -/
noncomputable def RDF (S25 : ZS) : Option (Int32 × ZS) :=
  m_chk (zK S25 1 = 11) (
  m_cal (zP S25 0 1) (fun b26 =>
  m_chk (zK S25 b26 = 6) (
  m_cal (f_X6_keep b26 (0 : Int32) S25) (fun o27 => m_chk (zt o27.2 = zt S25 ∧ zu o27.2 = zu S25) (
  m_chk (zK o27.2 1 = 11) (
  m_bnd (zsI o27.2 8 1 (0 : Int32)) (fun S28 =>
  m_chk (zK S28 1 = 11) (
  m_cal (zP S28 7 1) (fun b29 =>
  m_chk (zK S28 1 = 11) (
  m_cal (zP S28 9 1) (fun b30 =>
  m_chk (zK S28 b29 = 1) (
  m_cal (f_X1_standAt b29 (0 : Int32) b30 S28) (fun o31 => m_chk (zt o31.2 = zt S28 ∧ zu o31.2 = zu S28) (
  some ((0 : Int32), o31.2)))))))))))))))
section RDC
variable {S0 S S' : ZS} {g g' : Nat} {ch : Int → Int} {N p q : Int} {st : PO} {L : List (List Int × List Int)} {T : TRa} {r : Int} {o : Int32 × ZS} {W : Nat → Prop}
theorem tgk_e (hC : CG S) (hg : g = 35 ∨ g = 99) (h : TGk S g L) (h5 : EQc S S' g) (h6 : EQc S S' (g + 6)) (ht : ∀ i t, zB S (g + 6) i = some t → EQc S S' (t + 1) ∧ EQc S S' (t + 2)) : TGk S' g L := by
  obtain ⟨h1, h2, h3⟩ := h
  refine ⟨by rw [h5.2.2.1]; exact h1, h2, fun i hi => ?_⟩
  obtain ⟨t, t1, t2, t3⟩ := h3 i hi
  obtain ⟨-, -, -, -, a5, a6⟩ := (gm_of hC hg).2 _ _ t1
  exact ⟨t, by rw [h6.2.2.2.2.1]; exact t1, eqc_rl (ht i t t1).1 a5 t2, eqc_rl (ht i t t1).2 a6 t3⟩
theorem gmc_e (hC : CG S) (hg : g = 35 ∨ g = 99) (h : GMc S g L st T r) (hE : ∀ a, zK S a < 18 → ((g ≤ a ∧ a ≤ g + 6) ∨ 109 ≤ a) → EQc S S' a) : GMc S' g L st T r := by
  obtain ⟨⟨tr, hw, hl⟩, bo, tg, lb, hr⟩ := h
  have G := gm_of hC hg
  obtain ⟨⟨kg, -⟩, ⟨kb, ka, k3, k4, k5, k6, -⟩, -⟩ := fx_g hC.2.2.1 hg
  have eg := hE g (by rw [kg]; decide) (by omega)
  refine ⟨⟨trc_e hC hg tr (fun a ha => hE a (tc_lt hC hg ha) ?_), hw, hl⟩, bo_e bo (hE _ (by rw [kb]; decide) (by omega)) (hE (g + 2) (by rw [ka]; decide) (by omega)), tgk_e hC hg tg eg (hE _ (by rw [k6]; decide) (by omega)) (fun i t ht => ?_), lb, by rw [eg.2.2.1]; exact hr⟩
  · rcases ha with e | e | e | e | ⟨i, n, e1, e2⟩
    · omega
    · omega
    · omega
    · omega
    · have := (G.1 i n e1).1
      omega
  · obtain ⟨b1, -, -, -, b5, b6⟩ := G.2 i t ht
    exact ⟨hE _ (by rw [b5]; decide) (by omega), hE _ (by rw [b6]; decide) (by omega)⟩
theorem gmc_fr (hC : CG S) (hg : g = 35 ∨ g = 99) (h : GMc S g L st T r) (hF : FR W S S') (h0 : ∀ a, ((g ≤ a ∧ a ≤ g + 6) ∨ 109 ≤ a) → ¬ W a) : GMc S' g L st T r := gmc_e hC hg h (fun a ha hb => fr_e hF ha (h0 a hb))
theorem eqc_P {j c a : Nat} {v : Option Nat} (e : S' = zsP S j c v) (ha : a ≠ c) : EQc S S' a := by
  subst e
  refine ⟨rfl, rfl, fun _ => rfl, fun i => ?_, rfl, fun _ => rfl, fun _ _ _ => rfl⟩
  show va_up (zP S) j (va_up (zP S j) c v) i a = zP S i a
  by_cases ei : i = j
  · rw [ei, va_up_self]; exact va_up_ne _ _ ha
  · rw [va_up_ne _ _ ei]
theorem fx_17 : ∀ t ∈ fxL, ¬ (t.1 = 1 ∧ t.2.1 = 7) := by decide
/-- the class's game changes -/
theorem cg_7 {v : Nat} (h : CG S) (hT : ZT S') (e : S' = zsP S 7 1 (some v)) : CG S' := by
  obtain ⟨hT0, hZ, hX, h35, h99, hd⟩ := h
  have k1 : zK S 1 = 11 := hX.1 1 (by decide) (by decide)
  have P' : ∀ i a, ¬ (a = 1 ∧ i = 7) → zP S' i a = zP S i a := fun i a hn => by
    rw [e]
    show va_up (zP S) 7 (va_up (zP S 7) 1 (some v)) i a = zP S i a
    by_cases ei : i = 7
    · rw [ei, va_up_self]
      exact va_up_ne _ _ (fun ea => hn ⟨ea, ei⟩)
    · rw [va_up_ne _ _ ei]
  have K' : zK S' = zK S := by rw [e]; rfl
  have B' : zB S' = zB S := by rw [e]; rfl
  have I' : zI S' = zI S := by rw [e]; rfl
  have N' : zN S' = zN S := by rw [e]; rfl
  have gm : ∀ g, GM S g → GM S' g := fun g hm => by
    refine ⟨fun i a ha => ?_, fun i a ha => ?_⟩
    · rw [B'] at ha
      obtain ⟨a1, a2, a3, a4⟩ := hm.1 i a ha
      rw [K', P' 6 a (fun z => by omega)]
      exact ⟨a1, a2, a3, a4⟩
    · rw [B'] at ha
      obtain ⟨a1, a2, a3, a4, a5, a6⟩ := hm.2 i a ha
      rw [K', P' 0 a (fun z => by omega), P' 1 a (fun z => by omega)]
      exact ⟨a1, a2, a3, a4, a5, a6⟩
  refine ⟨hT, tz_x hT0 hZ (fun a _ => by rw [K']) (fun a i ha _ => P' i a (fun z => by rw [z.1, k1] at ha; omega)) (fun a _ => by rw [B']) (fun a _ => by rw [I']; exact ⟨rfl, rfl, rfl⟩) (fun a _ => by rw [I']), ⟨?_, ?_, ?_, ?_, ?_, ?_⟩, gm 35 h35, gm 99 h99, ?_⟩
  · rw [K']; exact hX.1
  · intro t ht
    rw [P' t.2.1 t.1 (fx_17 t ht)]
    exact hX.2.1 t ht
  · intro d hd
    rw [P' 0 _ (fun z => by omega)]; exact hX.2.2.1 d hd
  · intro d hd
    rw [P' 0 _ (fun z => by omega)]; exact hX.2.2.2.1 d hd
  · rw [B']; exact hX.2.2.2.2.1
  · rw [N']; exact hX.2.2.2.2.2
  · intro q q' hq
    rw [B']; exact hd q q' hq
/-- standing at the beginning -/
theorem p_stand0 {b : Nat} (hT : ZT S) (p7 : ∃ c, zP S 7 g = some c) (p0 : zP S 0 g = some (g + 1)) (k0 : zK S b = 0) (pb : zP S 0 b = some (b + 1)) (k1 : zK S (b + 1) = 14) (h : BO S (g + 1) st) (hf : f_X1_standAt g 0 b S = some o) : ZT o.2 ∧ FR (fun a => a = b ∨ a = b + 1) S o.2 ∧ BO o.2 b st := by
  have hf : f_X1_standAt_0 g 0 b S = some o := hf
  obtain ⟨c, p7⟩ := p7
  unfold f_X1_standAt_0 at hf
  obtain ⟨-, hf⟩ := m_chkE hf
  replace hf := m_calY hf p7
  have hf : f_X1_standAt_11s (f_X1_standAt_11 (mFuel - 1)) g b c 0 0 S = some o := hf
  unfold f_X1_standAt_11s at hf
  rcases m_ifE hf with ⟨-, hf⟩ | ⟨c1, hf⟩
  · unfold f_X1_standAt_54 at hf
    obtain ⟨-, hf⟩ := m_chkE hf
    replace hf := m_calY hf p0
    obtain ⟨-, hf⟩ := m_chkE hf
    obtain ⟨⟨r2, S2⟩, h_r2, hf⟩ := m_calE hf
    dsimp only at hf
    have g2 := bo_copy hT k0 pb k1 h h_r2
    dsimp only at g2
    obtain ⟨v3, e3, hf⟩ := m_bndE hf
    have t3 : v3.toInt = -1 := ti_sub e3 (show (0 : Int32).toInt = 0 from rfl) (show (1 : Int32).toInt = 1 from rfl) (by decide) (by decide)
    have hf : f_X1_standAt_68s (f_X1_standAt_68 (mFuel - 1)) b c v3 S2 = some o := hf
    unfold f_X1_standAt_68s at hf
    rcases m_ifE hf with ⟨-, hf⟩ | ⟨c2, hf⟩
    · cases hf
      exact g2
    · replace c2 := ti_ltN (a := v3) (b := (0 : Int32)) c2 rfl (show (0 : Int32).toInt = 0 from rfl)
      omega
  · exact absurd (by decide) c1
theorem zP_self3 {v : Nat} : zP (zsP S 3 23 (some v)) 3 23 = some v := by
  show va_up (zP S) 3 (va_up (zP S 3) 23 (some v)) 3 23 = some v
  rw [va_up_self, va_up_self]
/-- the last steps of a read: the text is gone, the game stands at its beginning -/
theorem rd_fin {S25 : ZS} (hg : GG g g') (C24 : CG S) (p324 : zP S 3 23 = some g') (G24 : GMc S g L st T r) (e25 : S25 = zsP S 7 1 (some g)) (hf : RDF S25 = some o) : o.1.toInt = 0 ∧ CG o.2 ∧ zP o.2 3 23 = some g' ∧ zP o.2 7 1 = some g ∧ TXc o.2 (fun _ => 0) 0 ∧ GMc o.2 g L st T r ∧ (zI o.2 8 1).toInt = 0 ∧ BO o.2 107 st := by
  have hb : (g = 35 ∧ g' = 99) ∨ (g = 99 ∧ g' = 35) := hg
  have hgr := gg_g hg
  have k1 : zK S 1 = 11 := fx_k C24.2.2.1 (by decide) (by decide)
  have kg : zK S g = 1 := (fx_g C24.2.2.1 hgr).1.1
  have T25 : ZT S25 := e25.symm ▸ zt_P C24.1 k1 (by decide) (Or.inr ⟨kg, rfl⟩) (by rcases hb with ⟨ee, -⟩ | ⟨ee, -⟩ <;> rw [ee] <;> decide)
  have C25 : CG S25 := cg_7 C24 T25 e25
  have G25 : GMc S25 g L st T r := gmc_e C24 hgr G24 (fun a _ _ => eqc_P e25 (by omega))
  have p725 : zP S25 7 1 = some g := by
    rw [e25]
    show va_up (zP S) 7 (va_up (zP S 7) 1 (some g)) 7 1 = some g
    rw [va_up_self, va_up_self]
  have p325 : zP S25 3 23 = some g' := by rw [(eqc_P e25 (show (23 : Nat) ≠ 1 by decide)).2.2.2.1]; exact p324
  have k125 : zK S25 1 = 11 := fx_k C25.2.2.1 (by decide) (by decide)
  have k225 : zK S25 2 = 6 := fx_k C25.2.2.1 (by decide) (by decide)
  have k2325 : zK S25 23 = 2 := fx_k C25.2.2.1 (by decide) (by decide)
  unfold RDF at hf
  obtain ⟨-, hf⟩ := m_chkE hf
  replace hf := m_calY hf (show zP S25 0 1 = some 2 from fx_p C25.2.2.1 (by decide))
  obtain ⟨-, hf⟩ := m_chkE hf
  obtain ⟨⟨r27, S27⟩, h_r27, hf⟩ := m_calE hf
  dsimp only at hf
  obtain ⟨w, hw⟩ := rwl_ex T25 k225
  obtain ⟨a1, a2, a3⟩ := p_keep hw (show (0 : Int) ≤ (0 : Int32).toInt by decide) h_r27
  rw [show (0 : Int32).toInt.toNat = 0 from rfl, List.take_zero] at a1
  have T27 : ZT S27 := by
    rcases a3 with a3 | a3
    · rw [a3]; exact T25
    · rw [a3]
      exact zt_I0 T25 k225 (fun _ => ⟨show (0 : Int) ≤ (0 : Int32).toInt by decide, show (0 : Int32).toInt ≤ _ by rw [hw.1]; exact Int.natCast_nonneg _⟩) (fun e => absurd e.1 (by decide)) (tf_b _)
  have F27 : FR (fun a => a = 2) S25 S27 := fr_r a2 k225
  have k127 : zK S27 1 = 11 := (fr_k F27 (by rw [k125]; decide)).trans k125
  obtain ⟨-, hf⟩ := m_chkE hf
  obtain ⟨-, hf⟩ := m_chkE hf
  obtain ⟨S28, e28, hf⟩ := m_bndE hf
  have T28 : ZT S28 := e28.symm ▸ zt_I T27 k127 (by decide) (show (0 : Int) ≤ (0 : Int32).toInt ∧ (0 : Int32).toInt ≤ (300 : Int) by decide)
  have F28 : FR (fun a => a = 2 ∨ a = 1) S25 S28 := fr_t (fr_m F27 (fun a _ e => Or.inl e)) (fr_m (fr_I e28) (fun a _ e => Or.inr e))
  have Z28 : TZ S28 := tz_k T25 C25.2.1 F28 (fun a _ e => by
    rcases e with e | e <;> rw [e]
    · rw [k225]; exact ⟨by decide, by decide, fun h => absurd h (by decide)⟩
    · rw [k125]; exact ⟨by decide, by decide, fun h => absurd h (by decide)⟩)
  have C28 : CG S28 := cg_w C25 T28 Z28 F28 (by decide) (by decide) (by decide) (by decide)
  have G28 : GMc S28 g L st T r := gmc_fr C25 hgr G25 F28 (by omega)
  have p728 : zP S28 7 1 = some g := ((F28 1 (by rw [k125]; decide)).1.2.2.1 (by rw [k125]; rfl) 7).trans p725
  have p328 : zP S28 3 23 = some g' := ((F28 23 (by rw [k2325]; decide)).1.2.2.1 (by rw [k2325]; rfl) 3).trans p325
  have R28 : RWL S28 2 [] := eqc_rl (fr_e (fr_I e28) (by rw [(fr_k F27 (by rw [k225]; decide)).trans k225]; decide) (show ¬ 2 = 1 by decide)) ((fr_k F27 (by rw [k225]; decide)).trans k225) a1
  obtain ⟨-, hf⟩ := m_chkE hf
  replace hf := m_calY hf p728
  obtain ⟨-, hf⟩ := m_chkE hf
  replace hf := m_calY hf (show zP S28 9 1 = some 107 from fx_p C28.2.2.1 (by decide))
  obtain ⟨-, hf⟩ := m_chkE hf
  obtain ⟨⟨r31, S31⟩, h_r31, hf⟩ := m_calE hf
  dsimp only at hf
  obtain ⟨⟨kg8, q0, -, -, -, q7⟩, -⟩ := fx_g C28.2.2.1 hgr
  have k107 : zK S28 107 = 0 := fx_k C28.2.2.1 (by decide) (by decide)
  have k108 : zK S28 108 = 14 := fx_k C28.2.2.1 (by decide) (by decide)
  obtain ⟨T31, F31, B31⟩ := p_stand0 T28 ⟨_, q7⟩ q0 k107 (fx_p C28.2.2.1 (by decide)) k108 G28.2.1 h_r31
  dsimp only at T31 F31 B31
  obtain ⟨-, hf⟩ := m_chkE hf
  cases hf
  have Z31 : TZ S31 := tz_k T28 C28.2.1 F31 (fun a _ e => by
    rcases e with e | e <;> rw [e]
    · rw [k107]; exact ⟨by decide, by decide, fun h => absurd h (by decide)⟩
    · rw [k108]; exact ⟨by decide, by decide, fun h => absurd h (by decide)⟩)
  have C31 : CG S31 := cg_w C28 T31 Z31 F31 (by decide) (by decide) (by decide) (by decide)
  have k128 : zK S28 1 = 11 := fx_k C28.2.2.1 (by decide) (by decide)
  have k228 : zK S28 2 = 6 := fx_k C28.2.2.1 (by decide) (by decide)
  have k2328 : zK S28 23 = 2 := fx_k C28.2.2.1 (by decide) (by decide)
  have e1 := fr_e F31 (show zK S28 1 < 18 by rw [k128]; decide) (by decide)
  have R31 := eqc_rl (fr_e F31 (show zK S28 2 < 18 by rw [k228]; decide) (by decide)) k228 R28
  refine ⟨rfl, C31, ((F31 23 (by rw [k2328]; decide)).1.2.2.1 (by rw [k2328]; rfl) 3).trans p328, (e1.2.2.2.1 7).trans p728, ⟨funext (fun i => ?_), R31.1, by decide, fun _ => ⟨Int.le_refl 0, show (0 : Int) ≤ 127 by decide⟩⟩, gmc_fr C28 hgr G28 F31 (by omega), ?_, B31⟩
  · rw [R31.2 i]
    exact wA_out (by show i < 0 ∨ (0 : Int) ≤ i; omega)
  · show (zI S31 8 1).toInt = 0
    rw [e1.2.2.1 8, e28, zI_self]
    rfl
/-- the class's read -/
theorem p_read (hC : CG S) (hg : GG g g') (p3 : zP S 3 23 = some g) (p7 : zP S 7 1 = some g') (hx : TXc S ch N) (hf : d_X11_read 1 S = some o) : (∃ L st T r, rdP ch N = some (L, st, T, r) ∧ o.1.toInt = 0 ∧ CG o.2 ∧ zP o.2 3 23 = some g' ∧ zP o.2 7 1 = some g ∧ TXc o.2 (fun _ => 0) 0 ∧ GMc o.2 g L st T r ∧ (zI o.2 8 1).toInt = 0 ∧ BO o.2 107 st) ∨ (rdP ch N = none ∧ CG o.2 ∧ FR (fun a => ¬ KPc (zsP S 2 23 (some 2)) g' a) (zsP S 2 23 (some 2)) o.2) := by
  have hf : d_X11_read_0 1 S = some o := hf
  have hb : (g = 35 ∧ g' = 99) ∨ (g = 99 ∧ g' = 35) := hg
  have hgr := gg_g hg
  have p5 : ∀ {S : ZS}, CG S → zP S 5 1 = some 23 := fun h => fx_p h.2.2.1 (by decide)
  have p0 : ∀ {S : ZS}, CG S → zP S 0 1 = some 2 := fun h => fx_p h.2.2.1 (by decide)
  have p9 : ∀ {S : ZS}, CG S → zP S 9 1 = some 107 := fun h => fx_p h.2.2.1 (by decide)
  obtain ⟨hc, hN, hn, hcb⟩ := hx
  unfold d_X11_read_0 at hf
  obtain ⟨-, hf⟩ := m_chkE hf
  replace hf := m_calY hf (p5 hC)
  obtain ⟨-, hf⟩ := m_chkE hf
  replace hf := m_calY hf (p0 hC)
  obtain ⟨-, hf⟩ := m_chkE hf
  obtain ⟨⟨r3, S3⟩, h_r3, hf⟩ := m_calE hf
  dsimp only at hf
  obtain ⟨CZ, H3⟩ := p_begin hC hg p3 hc hN hn hcb h_r3
  dsimp only at H3
  obtain ⟨-, hf⟩ := m_chkE hf
  obtain ⟨-, hf⟩ := m_chkE hf
  replace hf := m_calY hf (p5 H3.1)
  obtain ⟨-, hf⟩ := m_chkE hf
  obtain ⟨⟨r6, S7⟩, h_r6, hf⟩ := m_cal2E hf
  dsimp only at hf
  have fail : ∀ S9, rdP ch N = none → HSn (zsP S 2 23 (some 2)) S9 g' → d_X11_read_41 1 S9 = some o → (∃ L st T r, rdP ch N = some (L, st, T, r) ∧ o.1.toInt = 0 ∧ CG o.2 ∧ zP o.2 3 23 = some g' ∧ zP o.2 7 1 = some g ∧ TXc o.2 (fun _ => 0) 0 ∧ GMc o.2 g L st T r ∧ (zI o.2 8 1).toInt = 0 ∧ BO o.2 107 st) ∨ (rdP ch N = none ∧ CG o.2 ∧ FR (fun a => ¬ KPc (zsP S 2 23 (some 2)) g' a) (zsP S 2 23 (some 2)) o.2) := fun S9 hr hs hf => by
    unfold d_X11_read_41 at hf
    obtain ⟨-, hf⟩ := m_chkE hf
    replace hf := m_calY hf (p5 hs.1)
    obtain ⟨-, hf⟩ := m_chkE hf
    obtain ⟨⟨r2, S2⟩, h_r2, hf⟩ := m_calE hf
    dsimp only at hf
    have h2 : f_X2_fault_0 23 S9 = some (r2, S2) := h_r2
    unfold f_X2_fault_0 at h2
    obtain ⟨-, h2⟩ := m_chkE h2
    cases h2
    obtain ⟨-, hf⟩ := m_chkE hf
    cases hf
    exact Or.inr ⟨hr, hs.1, hs.2⟩
  rcases p_readHead H3 h_r6 with ⟨r, e, w, S1, a1, a2, a3, a4, a5, a6⟩ | ⟨a1, a2, a3⟩
  · dsimp only at a4 a5 a6
    have a3 : rmkP ch N 2001 (blk ch r.1) [] = some (e, w) := a3
    rcases m_ifE hf with ⟨c1, hf⟩ | ⟨-, hf⟩
    · rw [c1] at a4; exact absurd a4 (by decide)
    · obtain ⟨-, hf⟩ := m_chkE hf
      replace hf := m_calY hf (p5 a5.1)
      obtain ⟨-, hf⟩ := m_chkE hf
      obtain ⟨⟨r12, S13⟩, h_r12, hf⟩ := m_cal2E hf
      dsimp only at hf
      rcases p_readMoves a5 a6 h_r12 with ⟨e2, T', b1, b2, b3, b4⟩ | ⟨b1, b2, b3⟩
      · dsimp only at b2 b3
        rcases m_ifE hf with ⟨c1, hf⟩ | ⟨-, hf⟩
        · rw [c1] at b2; exact absurd b2 (by decide)
        · have M := ms_of a2 b3
          obtain ⟨-, hf⟩ := m_chkE hf
          replace hf := m_calY hf (p5 M.1)
          obtain ⟨-, hf⟩ := m_chkE hf
          obtain ⟨⟨r18, S19⟩, h_r18, hf⟩ := m_cal2E hf
          dsimp only at hf
          rcases p_readEnd M h_r18 with ⟨d1, d2, d3, d4, d5⟩ | ⟨d1, d2, d3⟩
          · dsimp only at d3 d4 d5
            rcases m_ifE hf with ⟨c1, hf⟩ | ⟨-, hf⟩
            · rw [c1] at d3; exact absurd d3 (by decide)
            · have hR : rdP ch N = some (r.2.1, r.2.2, T', rsV ch e2) := by
                unfold rdP
                simp only [a1, a3, b1]
                exact if_pos ⟨d1, d2⟩
              obtain ⟨c19, ⟨-, -, F19⟩, ⟨l19, -, p319⟩, tr19, bo19, tg19, lb19⟩ := d4
              have k1 : zK S19 1 = 11 := fx_k c19.2.2.1 (by decide) (by decide)
              have k23 : zK S19 23 = 2 := fx_k c19.2.2.1 (by decide) (by decide)
              have k2 : zK S19 2 = 6 := fx_k c19.2.2.1 (by decide) (by decide)
              have k1S : zK (zsP S 2 23 (some 2)) 1 = 11 := fx_k CZ.2.2.1 (by decide) (by decide)
              have p719 : zP S19 7 1 = some g' := by
                rw [(F19 1 (by rw [k1S]; decide)).1.2.2.1 (by rw [k1S]; rfl) 7]
                show va_up (zP S) 2 (va_up (zP S 2) 23 (some 2)) 7 1 = some g'
                rw [va_up_ne _ _ (by decide)]
                exact p7
              have kg' : zK S19 g' = 1 := (fx_g c19.2.2.1 (gg_g (gg_s hg))).1.1
              obtain ⟨-, hf⟩ := m_chkE hf
              replace hf := m_calY hf (p5 c19)
              obtain ⟨-, hf⟩ := m_chkE hf
              replace hf := m_calY hf p719
              obtain ⟨-, hf⟩ := m_chkE hf
              obtain ⟨⟨r24, S24⟩, h_r24, hf⟩ := m_calE hf
              dsimp only at hf
              have T24 : ZT S24 := (ok_of (t_f_X2_exchange (SZ := S19) c19.1 (a7_0 S19) k23 kg' (by rcases hb with ⟨-, ee⟩ | ⟨-, ee⟩ <;> rw [ee] <;> decide)) h_r24).1
              have h24 : f_X2_exchange_0 23 g' S19 = some (r24, S24) := h_r24
              unfold f_X2_exchange_0 at h24
              obtain ⟨-, h24⟩ := m_chkE h24
              replace h24 := m_calY h24 p319
              obtain ⟨-, h24⟩ := m_chkE h24
              obtain ⟨Sx, ex, h24⟩ := m_bndE h24
              have i24 := Option.some.inj h24
              have i1 : g = r24 := congrArg Prod.fst i24
              have i2 : Sx = S24 := congrArg Prod.snd i24
              rw [← i1] at hf
              rw [i2] at ex
              have C24 : CG S24 := cg_p c19 (Or.inr rfl) T24 ex
              obtain ⟨-, hf⟩ := m_chkE hf
              obtain ⟨-, hf⟩ := m_chkE hf
              obtain ⟨S25, e25, hf⟩ := m_bndE hf
              exact Or.inl ⟨_, _, _, _, hR, rd_fin hg C24 (by rw [ex]; exact zP_self3) (gmc_e c19 hgr ⟨tr19, bo19, tg19, lb19, d5⟩ (fun a _ _ => eqc_P ex (by omega))) e25 hf⟩
          · dsimp only at d2 d3
            rcases m_ifE hf with ⟨-, hf⟩ | ⟨c1, hf⟩
            · refine fail S19 ?_ d3 hf
              unfold rdP
              simp only [a1, a3, b1]
              exact if_neg d1
            · exact absurd (i32_of d2) c1
      · dsimp only at b2 b3
        rcases m_ifE hf with ⟨-, hf⟩ | ⟨c1, hf⟩
        · refine fail S13 ?_ (hn_of a2 b3) hf
          unfold rdP
          simp only [a1, a3, b1]
        · exact absurd (i32_of b2) c1
  · dsimp only at a2 a3
    rcases m_ifE hf with ⟨-, hf⟩ | ⟨c1, hf⟩
    · refine fail S7 ?_ a3 hf
      unfold rdP
      rcases a1 with a1 | ⟨r, a1, a4⟩
      · simp only [a1]
      · have a4 : rmkP ch N 2001 (blk ch r.1) [] = none := a4
        simp only [a1, a4]
    · exact absurd (i32_of a2) c1
end RDC
end
section
section FNZ
theorem rk_o {V : Int → Int} {base : Int} (hb : 0 ≤ base ∧ base ≤ 56) : ∀ (k : Nat) (p f dg : Int) (m : Int → Int) (z : Int × (Int → Int)), 0 ≤ f → (∀ s, ¬ (0 ≤ s ∧ s < 64) → m s = 0) → rkV V base k p f dg m = some z → ∀ s, ¬ (0 ≤ s ∧ s < 64) → z.2 s = 0
  | 0, p, f, dg, m, z, _, _, h => by cases h
  | k + 1, p, f, dg, m, z, hf, hm, h => by
    have h : (if 8 ≤ f then (if f = 8 then some (p, m) else none) else if 49 ≤ V p ∧ V p ≤ 56 then (if dg = 0 then rkV V base k (p + 1) (f + (V p - 48)) 1 m else none) else if manV (V p) = 0 then none else rkV V base k (p + 1) (f + 1) 0 (up m (base + f) (manV (V p)))) = some z := h
    by_cases c1 : 8 ≤ f
    · rw [if_pos c1] at h
      by_cases c2 : f = 8
      · rw [if_pos c2] at h
        cases h
        exact hm
      · rw [if_neg c2] at h; cases h
    · rw [if_neg c1] at h
      by_cases c2 : 49 ≤ V p ∧ V p ≤ 56
      · rw [if_pos c2] at h
        by_cases c3 : dg = 0
        · rw [if_pos c3] at h
          exact rk_o hb k _ _ _ m z (by omega) hm h
        · rw [if_neg c3] at h; cases h
      · rw [if_neg c2] at h
        by_cases c3 : manV (V p) = 0
        · rw [if_pos c3] at h; cases h
        · rw [if_neg c3] at h
          refine rk_o hb k _ _ _ _ z (by omega) (fun s hs => ?_) h
          rw [up_n (by omega)]
          exact hm s hs
theorem mh_o {V : Int → Int} : ∀ (r : Nat) (p : Int) (m : Int → Int) (z : Int × (Int → Int)), r ≤ 8 → (∀ s, ¬ (0 ≤ s ∧ s < 64) → m s = 0) → mhV V r p m = some z → ∀ s, ¬ (0 ≤ s ∧ s < 64) → z.2 s = 0
  | 0, p, m, z, _, hm, h => by
    cases h
    exact hm
  | r + 1, p, m, z, hr, hm, h => by
    have h : (if r = 7 then bnd2 (rkV V (8 * (r : Int)) 9 p 0 0 m) (fun z => mhV V r z.1 z.2) else if V p = 47 then bnd2 (rkV V (8 * (r : Int)) 9 (p + 1) 0 0 m) (fun z => mhV V r z.1 z.2) else none) = some z := h
    have step : ∀ q, bnd2 (rkV V (8 * (r : Int)) 9 q 0 0 m) (fun z => mhV V r z.1 z.2) = some z → ∀ s, ¬ (0 ≤ s ∧ s < 64) → z.2 s = 0 := fun q h => by
      cases hk : rkV V (8 * (r : Int)) 9 q 0 0 m with
      | none => rw [hk] at h; cases h
      | some y =>
        rw [hk] at h
        exact mh_o r y.1 y.2 z (by omega) (rk_o ⟨by omega, by omega⟩ 9 q 0 0 m y (by decide) hm hk) h
    by_cases c1 : r = 7
    · rw [if_pos c1] at h; exact step p h
    · rw [if_neg c1] at h
      by_cases c2 : V p = 47
      · rw [if_pos c2] at h; exact step (p + 1) h
      · rw [if_neg c2] at h; cases h
theorem fen_o {V : Int → Int} {n : Int} {m : Int → Int} {sd rt ps nb : Int} (h : FENp V n m sd rt ps nb) : ∀ s, ¬ (0 ≤ s ∧ s < 64) → m s = 0 := by
  obtain ⟨p1, h1, -⟩ := h
  exact mh_o 8 0 (fun _ => 0) (p1, m) (Nat.le_refl _) (fun _ _ => rfl) h1
theorem vl_ge {ch : Int → Int} {N : Int} : ∀ (k : Nat) (p : Int) (w : List Int), p ≤ (vlP ch N k p w).2.1
  | 0, p, w => Int.le_refl _
  | k + 1, p, w => by
    by_cases c1 : ch p = 34
    · rw [vl_q c1]; show p ≤ p + 1; omega
    · by_cases c2 : ch p = 92
      · by_cases c3 : ch (p + 1) = 34 ∨ ch (p + 1) = 92
        · rw [vl_e c2 c3]; have := vl_ge (ch := ch) (N := N) k (p + 2) (w ++ [ch (p + 1)]); omega
        · rw [vl_f c2 c3]; show p ≤ p + 1; omega
      · by_cases c3 : N ≤ p ∨ ch p = 10
        · rw [vl_n c1 c2 c3]; exact Int.le_refl _
        · rw [vl_s c1 c2 c3]; have := vl_ge (ch := ch) (N := N) k (p + 1) (w ++ [ch p]); omega
theorem tpf_p {ch : Int → Int} {N p f : Int} (h : TPf ch N p f) : p < f := by
  obtain ⟨n0, n1, h1, h2, h3⟩ := h
  have a1 := h1.1
  have a2 := h2.1
  rcases h3 with ⟨-, h4⟩ | ⟨-, q, h5, h6⟩
  · omega
  · have a3 := h5.1
    have a4 := vl_ge (ch := ch) (N := N) 2001 (q + 1) []
    rcases h6 with ⟨-, h7⟩ | ⟨-, ⟨-, h7⟩ | ⟨-, e, h7, -, h8⟩⟩
    · omega
    · omega
    · have := h7.1
      omega
end FNZ
/-- the reference while it reads tags into game g -/
noncomputable def HRt (I : Nat → Int32) (A : Nat → Nat → Int32) (g : Nat) (ch : Int → Int) (N p : Int) (st : PO) (L : List (List Int × List Int)) (T : TRa) : Prop := (RV I A ch N p ∧ p ≤ N ∧ g ≤ 1 ∧ (I 29).toInt ≤ 1999) ∧ TGr A (g : Int) L ∧ SPp A g st ∧ (TRr A g T ∧ WT T ∧ tn T = 0) ∧ PGd st ∧ 1 ≤ onb st ∧ onb st ≤ 999
/-- the reference's game behind its tags -/
noncomputable def RGT (x1 : Int32) (I : Nat → Int32) (A : Nat → Nat → Int32) : Option (Int32 × MS) :=
  m_cl (f_readRemarks x1 (0 : Int32) I A) (fun r2 Ic2 Ac2 =>
  m_if (r2 ≤ 0) (
  m_cl (f_readLine x1 (0 : Int32) (0 : Int32) Ic2 Ac2) (fun r3 Ic3 Ac3 =>
  f_readGame_59 x1 r3 Ic3 Ac3)
  ) (
  f_readGame_59 x1 r2 Ic2 Ac2
  ))
section RHR
variable {I I0 : Nat → Int32} {A A0 : Nat → Nat → Int32} {g : Nat} {ch : Int → Int} {N p : Int} {st : PO} {L : List (List Int × List Int)} {T : TRa} {o : Int32 × MS} {x1 : Int32}
theorem rs_hr (h : HRt I A g ch N p st L T) : RSt I I A A g ch N p st T := by
  obtain ⟨⟨rv, hp, hg, -⟩, tg, sp, ⟨tr, hw, h0⟩, pg, nb⟩ := h
  exact ⟨rv, hp, hg, tr, sp, ⟨hw, pg, nb, fun k k1 k2 => by omega⟩, rdf_0, fun _ _ _ => rfl, fun _ _ => rfl⟩
/-- a tag of the reference -/
theorem v_tag1 (h : HRt I A g ch N p st L T) (h91 : ch p = 91) (h1 : x1.toInt = (g : Int)) (hf : f_readTag x1 I A = some o) : (∃ r, TG1 ch N p L st r ∧ o.1.toInt = 0 ∧ HRt o.2.1 o.2.2 g ch N r.1 r.2.2 r.2.1 T) ∨ ((∀ r, ¬ TG1 ch N p L st r) ∧ 0 < o.1.toInt) := by
  obtain ⟨⟨rv, hp, hg, h29⟩, tg, sp, ⟨tr, hw, h0⟩, pg, nb⟩ := h
  obtain ⟨⟨hI, hA⟩, ⟨hc, hn, hN⟩, hcb, h37, hp0, -⟩ := id rv
  have out : ∀ i, N ≤ i → ch i = 0 := fun i hi => rv_out rv hi
  have pN : p < N := Int.not_le.1 (fun e => by have := out p e; omega)
  obtain ⟨hI', hA', -, -, h29'⟩ := ok_of (t_readTag (aa := p) (x1 := x1) hI hA (by omega) (by omega) (by omega) h29) hf
  have fw := fw_readTag hf
  have hg2 : (g : Int) = 0 ∨ (g : Int) = 1 := by omega
  have noR : ∀ e u w, TPk ch N p e u w → (RF2 L u w ∨ (u = strL 0 ∧ ∀ m sd rt ps nb, ¬ FENp (wA w) (w.length : Int) m sd rt ps nb)) → ∀ r, ¬ TG1 ch N p L st r := fun e u w hk hR r ⟨e', u', w', a1, a2, a3, a4, a5⟩ => by
    obtain ⟨-, e2, e3⟩ := tpk_u hk a1
    subst e2; subst e3
    rcases hR with hR | ⟨hR, hF⟩
    · exact a2 hR
    · rcases a5 with ⟨a6, -⟩ | ⟨-, a6⟩
      · exact a6 hR
      · exact hF _ _ _ _ _ a6.1
  rcases v_readTag hI hA hc hcb hn hN.2 h37 ⟨hp0, hp⟩ hg2 h1 tg h29 hf with ⟨f, a1, a2⟩ | ⟨e, u, w, a1, a2⟩
  · have := tpf_p a1
    exact Or.inr ⟨fun r ⟨e, u, w, b, _⟩ => tp_x a1 b, by omega⟩
  · rcases a2 with ⟨b1, b2⟩ | ⟨b1, b2, b3, b4⟩ | ⟨b1, b2, b3, b4, b5⟩
    · exact Or.inr ⟨noR e u w a1 (Or.inl b1), by omega⟩
    · exact Or.inr ⟨noR e u w a1 (Or.inr ⟨b2, b3⟩), by omega⟩
    · have e93 : ch e = 93 := by
        obtain ⟨_, _, _, _, _, _, _, _, _, _, x, _⟩ := a1
        exact x
      have e0 : p < e := by
        obtain ⟨n0, n1, q, x1, x2, x3, x4, _, _, x5, _⟩ := a1
        have y1 := x1.1
        have y2 := x4.1
        have y3 := vl_ge (ch := ch) (N := N) 2001 (q + 1) []
        have y4 := x5.1
        omega
      have eN : e < N := Int.not_le.1 (fun ee => by have := out e ee; omega)
      have rv' : RV o.2.1 o.2.2 ch N (e + 1) := ⟨⟨hI', hA'⟩, ⟨by rw [← hc]; funext i; unfold txR; rw [fw.1 1 (by decide), fw.2 2 (by decide)], by rw [fw.1 1 (by decide)]; exact hn, hN⟩, hcb, b3, by omega, by omega⟩
      have tr' : TRr o.2.2 g T := trr_e hg (by omega) tr (by rw [fw.2 7 (by decide)]) (fun j hj => fw.2 j (by simp only [List.mem_cons, List.not_mem_nil, or_false]; omega))
      rcases b5 with ⟨b6, b7, b8, b9⟩ | ⟨b6, b7, m, sd, rt, ps, nb', b8, b9, b10⟩
      · refine Or.inl ⟨(e + 1, L ++ [(u, w)], st), ⟨e, u, w, a1, b1, rfl, rfl, Or.inl ⟨b6, rfl⟩⟩, b2, ⟨rv', show e + 1 ≤ N by omega, hg, h29'⟩, b4, ⟨?_, sp.2⟩, ⟨tr', hw, h0⟩, pg, nb⟩
        have s1 := sp.1
        unfold SPo at s1 ⊢
        rw [b8, b9]
        exact s1
      · obtain ⟨kw, kb, d1, d2, d3⟩ := fno_ex b8 b9 (fen_o b8)
        exact Or.inl ⟨(e + 1, L ++ [(u, w)], (m, sd, rt, ps, kw, kb, nb')), ⟨e, u, w, a1, b1, rfl, rfl, Or.inr ⟨b6, d1⟩⟩, b2, ⟨rv', show e + 1 ≤ N by omega, hg, h29'⟩, b4, ⟨b10, fen_o b8⟩, ⟨tr', hw, h0⟩, d2, d3⟩
theorem rg_9 (h1 : x1.toInt = (g : Int)) : ∀ (n : Nat) (I : Nat → Int32) (A : Nat → Nat → Int32) (k : Nat) (p : Int) (L : List (List Int × List Int)) (st : PO), HRt I A g ch N p st L T → 9 ≤ k + L.length → f_readGame_9 n x1 I A = some o → (∃ r I1 A1, hdP ch N k p L st = some r ∧ HRt I1 A1 g ch N r.1 r.2.2 r.2.1 T ∧ RGT x1 I1 A1 = some o) ∨ (hdP ch N k p L st = none ∧ 0 < o.1.toInt) := by
  intro n
  induction n with
  | zero => intro I A k p L st _ _ hf; cases hf
  | succ n ih =>
    intro I A k p L st h hk hf
    have hf : f_readGame_9s (f_readGame_9 n) x1 I A = some o := hf
    have l8 := h.2.1.2.1
    obtain ⟨k, rfl⟩ : ∃ j, k = j + 1 := ⟨k - 1, by omega⟩
    unfold f_readGame_9s at hf
    obtain ⟨r1, h_r1, hf⟩ := m_clR hf (fun _ h => rro_look h)
    have q1 := rv_lk h.1.1 h_r1
    dsimp only at q1
    rcases m_ifE hf with ⟨c1, hf⟩ | ⟨c1, hf⟩
    · replace c1 := ti_eqP (a := r1) (b := (91 : Int32)) c1 rfl (show (91 : Int32).toInt = 91 from rfl)
      obtain ⟨⟨r4, Ic4, Ac4⟩, h_r4, hf⟩ := m_clE hf
      dsimp only at hf
      rcases v_tag1 h (by omega) h1 h_r4 with ⟨r, a1, a2, a3⟩ | ⟨a1, a2⟩
      · dsimp only at a2 a3
        rcases m_ifE hf with ⟨-, hf⟩ | ⟨c2, hf⟩
        · obtain ⟨⟨r5, Ic5, Ac5⟩, h_r5, hf⟩ := m_clE hf
          dsimp only at hf
          obtain ⟨⟨rv, hp, hg, h29⟩, tg, sp, tr, pg⟩ := a3
          obtain ⟨b1, b2, b3, b4, b5⟩ := rv_bl rv h_r5
          dsimp only at b2 b3 b4
          have hl : r.2.1.length = L.length + 1 := by
            obtain ⟨e, u, w, -, -, -, x, -⟩ := a1
            rw [x, List.length_append]; rfl
          rw [hd_y (by omega) a1]
          rw [b3] at hf b2
          exact ih Ic5 Ac4 k _ _ _ ⟨⟨b2, by omega, hg, by rw [b4 29 (by decide)]; exact h29⟩, tg, sp, tr, pg⟩ (by rw [hl]; omega) hf
        · replace c2 := ti_leN (a := r4) (b := (0 : Int32)) c2 rfl (show (0 : Int32).toInt = 0 from rfl)
          omega
      · dsimp only at a2
        rcases m_ifE hf with ⟨c2, hf⟩ | ⟨c2, hf⟩
        · replace c2 := ti_leP (a := r4) (b := (0 : Int32)) c2 rfl (show (0 : Int32).toInt = 0 from rfl)
          omega
        · cases hf
          exact Or.inr ⟨hd_n (by omega) a1, a2⟩
    · replace c1 := ti_eqN (a := r1) (b := (91 : Int32)) c1 rfl (show (91 : Int32).toInt = 91 from rfl)
      exact Or.inl ⟨(p, L, st), I, A, hd_0 (by omega), h, hf⟩
end RHR
end
section
section RSU
variable {I : Nat → Int32} {A : Nat → Nat → Int32} {o : Int32 × MS} {x0 x1 x2 x3 : Int32} {w : List Int} {r : Int}
theorem i32_4 {x : Int32} (h : 0 ≤ x.toInt ∧ x.toInt ≤ 3) : x = 0 ∨ x = 1 ∨ x = 2 ∨ x = 3 := by
  have e : x.toInt = 0 ∨ x.toInt = 1 ∨ x.toInt = 2 ∨ x.toInt = 3 := by omega
  rcases e with e | e | e | e
  · exact Or.inl (i32_of e)
  · exact Or.inr (Or.inl (i32_of e))
  · exact Or.inr (Or.inr (Or.inl (i32_of e)))
  · exact Or.inr (Or.inr (Or.inr (i32_of e)))
theorem i32_7 {x : Int32} (h : 0 ≤ x.toInt ∧ x.toInt ≤ 6) : x = 0 ∨ x = 1 ∨ x = 2 ∨ x = 3 ∨ x = 4 ∨ x = 5 ∨ x = 6 := by
  by_cases h3 : x.toInt ≤ 3
  · have := i32_4 ⟨h.1, h3⟩
    rcases this with e | e | e | e
    · exact Or.inl e
    · exact Or.inr (Or.inl e)
    · exact Or.inr (Or.inr (Or.inl e))
    · exact Or.inr (Or.inr (Or.inr (Or.inl e)))
  · have e : x.toInt = 4 ∨ x.toInt = 5 ∨ x.toInt = 6 := by omega
    rcases e with e | e | e
    · exact Or.inr (Or.inr (Or.inr (Or.inr (Or.inl (i32_of e)))))
    · exact Or.inr (Or.inr (Or.inr (Or.inr (Or.inr (Or.inl (i32_of e))))))
    · exact Or.inr (Or.inr (Or.inr (Or.inr (Or.inr (Or.inr (i32_of e))))))
theorem v_resSize (h : 0 ≤ x0.toInt ∧ x0.toInt ≤ 3) (hf : f_resultSize x0 I A = some o) : o.1.toInt = rsN x0.toInt := by
  rw [rsN_v]
  rcases i32_4 h with e | e | e | e <;> subst e
  · have e2 : f_resultSize 0 I A = some (1, (I, A)) := rfl
    rw [e2] at hf; cases hf; rfl
  · have e2 : f_resultSize 1 I A = some (3, (I, A)) := rfl
    rw [e2] at hf; cases hf; rfl
  · have e2 : f_resultSize 2 I A = some (3, (I, A)) := rfl
    rw [e2] at hf; cases hf; rfl
  · have e2 : f_resultSize 3 I A = some (7, (I, A)) := rfl
    rw [e2] at hf; cases hf; rfl
theorem v_resSign (h : 0 ≤ x0.toInt ∧ x0.toInt ≤ 3) (h1 : 0 ≤ x1.toInt ∧ x1.toInt < rsN x0.toInt) (hf : f_resultSign x0 x1 I A = some o) : o.1.toInt = wA (strL (rsS x0.toInt)) x1.toInt := by
  rw [rsN_v] at h1
  rcases i32_4 h with e | e | e | e <;> subst e
  · have l : x1.toInt < 1 := h1.2
    have e1 : x1 = 0 := i32_of (show x1.toInt = 0 by omega)
    subst e1
    have e2 : f_resultSign 0 0 I A = some (42, (I, A)) := rfl
    rw [e2] at hf; cases hf; exact (by decide : (42 : Int32).toInt = wA (strL (rsS (0 : Int32).toInt)) (0 : Int32).toInt)
  · have l : x1.toInt < 3 := h1.2
    rcases i32_4 (x := x1) (by omega) with e | e | e | e <;> subst e
    · have e2 : f_resultSign 1 0 I A = some (49, (I, A)) := rfl
      rw [e2] at hf; cases hf; exact (by decide : (49 : Int32).toInt = wA (strL (rsS (1 : Int32).toInt)) (0 : Int32).toInt)
    · have e2 : f_resultSign 1 1 I A = some (45, (I, A)) := rfl
      rw [e2] at hf; cases hf; exact (by decide : (45 : Int32).toInt = wA (strL (rsS (1 : Int32).toInt)) (1 : Int32).toInt)
    · have e2 : f_resultSign 1 2 I A = some (48, (I, A)) := rfl
      rw [e2] at hf; cases hf; exact (by decide : (48 : Int32).toInt = wA (strL (rsS (1 : Int32).toInt)) (2 : Int32).toInt)
    · exact absurd l (by decide)
  · have l : x1.toInt < 3 := h1.2
    rcases i32_4 (x := x1) (by omega) with e | e | e | e <;> subst e
    · have e2 : f_resultSign 2 0 I A = some (48, (I, A)) := rfl
      rw [e2] at hf; cases hf; exact (by decide : (48 : Int32).toInt = wA (strL (rsS (2 : Int32).toInt)) (0 : Int32).toInt)
    · have e2 : f_resultSign 2 1 I A = some (45, (I, A)) := rfl
      rw [e2] at hf; cases hf; exact (by decide : (45 : Int32).toInt = wA (strL (rsS (2 : Int32).toInt)) (1 : Int32).toInt)
    · have e2 : f_resultSign 2 2 I A = some (49, (I, A)) := rfl
      rw [e2] at hf; cases hf; exact (by decide : (49 : Int32).toInt = wA (strL (rsS (2 : Int32).toInt)) (2 : Int32).toInt)
    · exact absurd l (by decide)
  · have l : x1.toInt < 7 := h1.2
    rcases i32_7 (x := x1) (by omega) with e | e | e | e | e | e | e <;> subst e
    · have e2 : f_resultSign 3 0 I A = some (49, (I, A)) := rfl
      rw [e2] at hf; cases hf; exact (by decide : (49 : Int32).toInt = wA (strL (rsS (3 : Int32).toInt)) (0 : Int32).toInt)
    · have e2 : f_resultSign 3 1 I A = some (47, (I, A)) := rfl
      rw [e2] at hf; cases hf; exact (by decide : (47 : Int32).toInt = wA (strL (rsS (3 : Int32).toInt)) (1 : Int32).toInt)
    · have e2 : f_resultSign 3 2 I A = some (50, (I, A)) := rfl
      rw [e2] at hf; cases hf; exact (by decide : (50 : Int32).toInt = wA (strL (rsS (3 : Int32).toInt)) (2 : Int32).toInt)
    · have e2 : f_resultSign 3 3 I A = some (45, (I, A)) := rfl
      rw [e2] at hf; cases hf; exact (by decide : (45 : Int32).toInt = wA (strL (rsS (3 : Int32).toInt)) (3 : Int32).toInt)
    · have e2 : f_resultSign 3 4 I A = some (49, (I, A)) := rfl
      rw [e2] at hf; cases hf; exact (by decide : (49 : Int32).toInt = wA (strL (rsS (3 : Int32).toInt)) (4 : Int32).toInt)
    · have e2 : f_resultSign 3 5 I A = some (47, (I, A)) := rfl
      rw [e2] at hf; cases hf; exact (by decide : (47 : Int32).toInt = wA (strL (rsS (3 : Int32).toInt)) (5 : Int32).toInt)
    · have e2 : f_resultSign 3 6 I A = some (50, (I, A)) := rfl
      rw [e2] at hf; cases hf; exact (by decide : (50 : Int32).toInt = wA (strL (rsS (3 : Int32).toInt)) (6 : Int32).toInt)
theorem iv_28 {g k : Int} (hv : VLr A g k w) (hg : g = 0 ∨ g = 1) (hk : 0 ≤ k ∧ k ≤ 7) (h1 : x1.toInt = g) (h2 : x2.toInt = k) (h3 : 0 ≤ x3.toInt ∧ x3.toInt ≤ 3) : ∀ (n : Nat) (x4 x5 : Int32), (x4.toInt = 0 ∨ x4.toInt = 1) → (x4.toInt = 1 ↔ (w.length : Int) = rsN x3.toInt ∧ ∀ i : Int, 0 ≤ i → i < x5.toInt → wA w i = wA (strL (rsS x3.toInt)) i) → 0 ≤ x5.toInt → x5.toInt ≤ rsN x3.toInt → f_isResultValue_28 n x1 x2 x3 x4 x5 I A = some o → (o.1.toInt = 0 ∨ o.1.toInt = 1) ∧ (o.1.toInt = 1 ↔ w = strL (rsS x3.toInt)) := by
  intro n
  induction n with
  | zero => intro x4 x5 _ _ _ _ hf; cases hf
  | succ n ih =>
    intro x4 x5 h4 hq h50 h51 hf
    have hf : f_isResultValue_28s (f_isResultValue_28 n) x1 x2 x3 x4 x5 I A = some o := hf
    have nb := rsN_b x3.toInt
    unfold f_isResultValue_28s at hf
    obtain ⟨r1, h_r1, hf⟩ := m_clR hf (fun _ h => rro_resultSize h)
    have q1 := v_resSize h3 h_r1
    dsimp only at q1
    rcases m_ifE hf with ⟨c1, hf⟩ | ⟨c1, hf⟩
    · replace c1 := ti_leP (a := r1) (b := x5) c1 rfl rfl
      unfold f_isResultValue_82 at hf
      obtain ⟨-, hf⟩ := m_chkE hf
      cases hf
      refine ⟨h4, ⟨fun e => ?_, fun e => hq.2 ⟨by rw [e]; rfl, fun i _ _ => by rw [e]⟩⟩⟩
      obtain ⟨b1, b2⟩ := hq.1 e
      have ll : w.length = (strL (rsS x3.toInt)).length := by
        have : (w.length : Int) = ((strL (rsS x3.toInt)).length : Int) := b1
        omega
      exact wA_ext ll (fun i i0 i1 => b2 i i0 (by
        have : ((strL (rsS x3.toInt)).length : Int) = rsN x3.toInt := rfl
        omega))
    · replace c1 := ti_leN (a := r1) (b := x5) c1 rfl rfl
      rcases m_ifE hf with ⟨c2, hf⟩ | ⟨c2, hf⟩
      · replace c2 := ti_eqP (a := x4) (b := (0 : Int32)) c2 rfl (show (0 : Int32).toInt = 0 from rfl)
        unfold f_isResultValue_82 at hf
        obtain ⟨-, hf⟩ := m_chkE hf
        cases hf
        refine ⟨h4, ⟨fun e => absurd (show x4.toInt = 1 from e) (by omega), fun e => ?_⟩⟩
        exact hq.2 ⟨by rw [e]; rfl, fun i _ _ => by rw [e]⟩
      · replace c2 := ti_eqN (a := x4) (b := (0 : Int32)) c2 rfl (show (0 : Int32).toInt = 0 from rfl)
        obtain ⟨wl, wc⟩ := hq.1 (by omega)
        obtain ⟨v2, e_v2, hf⟩ := m_bndE hf
        have t2 : v2.toInt = 768 * x1.toInt := ti_mul e_v2 (show (768 : Int32).toInt = 768 from rfl) rfl (by omega) (by omega)
        obtain ⟨v3, e_v3, hf⟩ := m_bndE hf
        have t3 : v3.toInt = 96 * x2.toInt := ti_mul e_v3 (show (96 : Int32).toInt = 96 from rfl) rfl (by omega) (by omega)
        obtain ⟨v4, e_v4, hf⟩ := m_bndE hf
        have t4 : v4.toInt = v2.toInt + v3.toInt := ti_add e_v4 rfl rfl (by omega) (by omega)
        obtain ⟨v5, e_v5, hf⟩ := m_bndE hf
        have t5 : v5.toInt = v4.toInt + x5.toInt := ti_add e_v5 rfl rfl (by omega) (by omega)
        obtain ⟨-, hf⟩ := m_chkE hf
        obtain ⟨v6, e_v6, hf⟩ := m_bndE hf
        have t6 : v6.toInt = wA w x5.toInt := by
          rw [e_v6, cl_n (n := (768 * g + 96 * k + x5.toInt).toNat) (by omega)]
          exact hv.2.2 x5.toInt h50 (by omega)
        obtain ⟨r7, h_r7, hf⟩ := m_clR hf (fun _ h => rro_resultSign h)
        have q7 := v_resSign h3 ⟨h50, by omega⟩ h_r7
        dsimp only at q7
        have go : ∀ (y : Int32), (y.toInt = 0 ∨ y.toInt = 1) → (y.toInt = 1 ↔ v6.toInt = r7.toInt) → f_isResultValue_74 (f_isResultValue_28 n) x1 x2 x3 x5 y I A = some o → (o.1.toInt = 0 ∨ o.1.toInt = 1) ∧ (o.1.toInt = 1 ↔ w = strL (rsS x3.toInt)) := fun y hy hyq hf => by
          unfold f_isResultValue_74 at hf
          obtain ⟨v8, e8, hf⟩ := m_bndE hf
          have t8 : v8.toInt = x5.toInt + 1 := ti_add e8 rfl (show (1 : Int32).toInt = 1 from rfl) (by omega) (by omega)
          refine ih y v8 hy ⟨fun e => ⟨wl, fun i i0 i1 => ?_⟩, fun e => hyq.2 ?_⟩ (by omega) (by omega) hf
          · by_cases ei : i = x5.toInt
            · rw [ei, ← t6, ← q7]; exact hyq.1 e
            · exact wc i i0 (by omega)
          · rw [t6, q7]; exact e.2 x5.toInt h50 (by omega)
        rcases m_ifE hf with ⟨c3, hf⟩ | ⟨c3, hf⟩
        · replace c3 := ti_eqP (a := v6) (b := r7) c3 rfl rfl
          exact go 1 (Or.inr rfl) ⟨fun _ => c3, fun _ => rfl⟩ hf
        · replace c3 := ti_eqN (a := v6) (b := r7) c3 rfl rfl
          exact go 0 (Or.inl rfl) ⟨fun e => absurd e (by decide), fun e => absurd e c3⟩ hf
theorem v_isResultValue {g k : Int} (hv : VLr A g k w) (hg : g = 0 ∨ g = 1) (hk : 0 ≤ k ∧ k ≤ 7) (h1 : x1.toInt = g) (h2 : x2.toInt = k) (h3 : 0 ≤ x3.toInt ∧ x3.toInt ≤ 3) (hf : f_isResultValue x1 x2 x3 I A = some o) : (o.1.toInt = 0 ∨ o.1.toInt = 1) ∧ (o.1.toInt = 1 ↔ w = strL (rsS x3.toInt)) := by
  have hf : f_isResultValue_0 x1 x2 x3 I A = some o := hf
  unfold f_isResultValue_0 at hf
  have nb := rsN_b x3.toInt
  have z0 : (0 : Int32).toInt = 0 := rfl
  obtain ⟨v1, e_v1, hf⟩ := m_bndE hf
  have t1 : v1.toInt = 8 * x1.toInt := ti_mul e_v1 (show (8 : Int32).toInt = 8 from rfl) rfl (by omega) (by omega)
  obtain ⟨v2, e_v2, hf⟩ := m_bndE hf
  have t2 : v2.toInt = v1.toInt + x2.toInt := ti_add e_v2 rfl rfl (by omega) (by omega)
  obtain ⟨-, hf⟩ := m_chkE hf
  obtain ⟨v3, e_v3, hf⟩ := m_bndE hf
  have t3 : v3.toInt = (w.length : Int) := by
    rw [e_v3, cl_n (n := (8 * g + k).toNat) (by omega)]
    exact hv.1
  obtain ⟨r4, h_r4, hf⟩ := m_clR hf (fun _ h => rro_resultSize h)
  have q4 := v_resSize h3 h_r4
  dsimp only at q4
  rcases m_ifE hf with ⟨c1, hf⟩ | ⟨c1, hf⟩
  · replace c1 := ti_eqP (a := v3) (b := r4) c1 rfl rfl
    exact iv_28 hv hg hk h1 h2 h3 mFuel 1 0 (Or.inr rfl) ⟨fun _ => ⟨by omega, fun i i0 i1 => by omega⟩, fun _ => rfl⟩ (by decide) (by omega) hf
  · replace c1 := ti_eqN (a := v3) (b := r4) c1 rfl rfl
    exact iv_28 hv hg hk h1 h2 h3 mFuel 0 0 (Or.inl rfl) ⟨fun e => absurd e (by decide), fun e => absurd e.1 (by omega)⟩ (by decide) (by omega) hf
end RSU
end
section
/-- a result lies within the text -/
theorem rsV_N {ch : Int → Int} {N p : Int} (hz : ∀ i, N ≤ i → ch i = 0) (h : rsV ch p ≠ -1) : p + rsN (rsV ch p) ≤ N := by
  have lt : ∀ i, ch i ≠ 0 → i < N := fun i hi => Int.not_le.1 (fun e => hi (hz i e))
  rw [rsN_v]
  unfold rsV at h ⊢
  by_cases c1 : ch p = 42
  · rw [if_pos c1]
    have := lt p (by omega)
    rw [if_neg (by decide), if_neg (by decide), if_neg (by decide)]
    omega
  · rw [if_neg c1] at h ⊢
    by_cases c2 : ch p = 49 ∧ ch (p + 1) = 45 ∧ ch (p + 2) = 48
    · rw [if_pos c2]
      have := lt (p + 2) (by omega)
      rw [if_pos rfl]
      omega
    · rw [if_neg c2] at h ⊢
      by_cases c3 : ch p = 48 ∧ ch (p + 1) = 45 ∧ ch (p + 2) = 49
      · rw [if_pos c3]
        have := lt (p + 2) (by omega)
        rw [if_neg (by decide), if_pos rfl]
        omega
      · rw [if_neg c3] at h ⊢
        by_cases c4 : (ch p = 49 ∧ ch (p + 1) = 47 ∧ ch (p + 2) = 50) ∧ ch (p + 3) = 45 ∧ ch (p + 4) = 49 ∧ ch (p + 5) = 47 ∧ ch (p + 6) = 50
        · rw [if_pos c4]
          have := lt (p + 6) (by omega)
          rw [if_neg (by decide), if_neg (by decide), if_pos rfl]
          omega
        · rw [if_neg c4] at h
          exact absurd rfl h
/-- a game of the reference, whole -/
noncomputable def GMr (A : Nat → Nat → Int32) (g : Nat) (L : List (List Int × List Int)) (st : PO) (T : TRa) (r : Int) : Prop := (TRr A g T ∧ WT T ∧ LTr st T) ∧ SPp A g st ∧ TGr A (g : Int) L ∧ (A 23 g).toInt = r
section RGE
variable {I I0 : Nat → Int32} {A A0 : Nat → Nat → Int32} {g : Nat} {ch : Int → Int} {N p r : Int} {st : PO} {L : List (List Int × List Int)} {T : TRa} {o : Int32 × MS} {x1 x3 : Int32}
theorem rg_154 {t0 t1 : Int32} (h : RV I A ch N p) (hpN : p + r ≤ N) (h0 : t0.toInt = r) (h1 : t1.toInt = p) (hr : 0 ≤ r) (hf : f_readGame_154 t0 t1 I A = some o) : o.2.2 = A ∧ (∀ j, j ≠ 37 → o.2.1 j = I j) ∧ ((blk ch (p + r) = N ∧ o.1.toInt = 0) ∨ (blk ch (p + r) ≠ N ∧ 0 < o.1.toInt)) := by
  have hp := h.2.2.2.2
  have hN := h.2.1.2.2
  unfold f_readGame_154 at hf
  obtain ⟨v1, e1, hf⟩ := m_bndE hf
  have q1 : v1.toInt = t1.toInt + t0.toInt := ti_add e1 rfl rfl (by omega) (by omega)
  obtain ⟨I2, e2, hf⟩ := m_bndE hf
  have R2 : RV I2 A ch N (p + r) := rv_at h e2 (by omega) (by omega)
  obtain ⟨⟨r3, Ic3, Ac3⟩, h_r3, hf⟩ := m_clE hf
  dsimp only at hf
  obtain ⟨b1, b2, b3, b4, b5⟩ := rv_bl R2 h_r3
  dsimp only at b2 b3 b4
  have i3 : ∀ j, j ≠ 37 → Ic3 j = I j := fun j hj => by rw [b4 j hj, e2, upd_ne hj]
  have n3 : (Ic3 1).toInt = N := b2.2.1.2.1
  have p3 : (Ic3 37).toInt = blk ch (p + r) := b2.2.2.2.1
  rcases m_ifE hf with ⟨c1, hf⟩ | ⟨c1, hf⟩
  · replace c1 := ti_leP (a := Ic3 1) (b := Ic3 37) c1 rfl rfl
    unfold f_readGame_185 at hf
    cases hf
    exact ⟨b3, i3, Or.inl ⟨by omega, rfl⟩⟩
  · replace c1 := ti_leN (a := Ic3 1) (b := Ic3 37) c1 rfl rfl
    obtain ⟨r4, h_r4, hf⟩ := m_clR hf (fun _ h => rro_fault h)
    have z1 : (1 : Int32).toInt = 1 := rfl
    have q4 := v_fault (x1 := 1) (x2 := Ic3 37) (by decide) (by have := b1.1; omega) h_r4
    dsimp only at q4
    unfold f_readGame_185 at hf
    cases hf
    refine ⟨b3, i3, Or.inr ⟨by omega, ?_⟩⟩
    show 0 < r4.toInt
    have := b1.1
    omega
theorem rg_74 (h : RV I A ch N p) (hpN : p ≤ N) (hg : g ≤ 1) (h1 : x1.toInt = (g : Int)) (tg : TGr A (g : Int) L) (h3 : x3.toInt = rsV ch p) (hr : rsV ch p ≠ -1) : ∀ (n : Nat) (x4 : Int32), 0 ≤ x4.toInt → x4.toInt ≤ (L.length : Int) → (∀ i : Int, 0 ≤ i → i < x4.toInt → nmL L i = strL 10 → vlL L i = strL (rsS (rsV ch p))) → f_readGame_74 n x1 x3 x4 I A = some o → (AGr L (rsV ch p) ∧ blk ch (p + rsN (rsV ch p)) = N ∧ o.1.toInt = 0 ∧ (∀ j, j ≠ 23 → o.2.2 j = A j) ∧ (o.2.2 23 g).toInt = rsV ch p ∧ (∀ i, i ≠ g → o.2.2 23 i = A 23 i) ∧ ∀ j, j ≠ 37 → o.2.1 j = I j) ∨ (¬ (AGr L (rsV ch p) ∧ blk ch (p + rsN (rsV ch p)) = N) ∧ 0 < o.1.toInt) := by
  intro n
  induction n with
  | zero => intro x4 _ _ _ hf; cases hf
  | succ n ih =>
    intro x4 h40 h41 hs hf
    have hf : f_readGame_74s (f_readGame_74 n) x1 x3 x4 I A = some o := hf
    have rb := rsV_b (ch := ch) (p := p)
    have l8 := tg.2.1
    have hg2 : (g : Int) = 0 ∨ (g : Int) = 1 := by omega
    have xn : x1.toNatClampNeg = g := cl_n h1
    have hp := h.2.2.2.2
    have hN := h.2.1.2.2
    have h37 : (I 37).toInt = p := h.2.2.2.1
    have go : ∀ hq : nmL L x4.toInt = strL 10 → vlL L x4.toInt = strL (rsS (rsV ch p)), x4.toInt < (L.length : Int) → f_readGame_117 (f_readGame_74 n) x1 x3 x4 I A = some o → (AGr L (rsV ch p) ∧ blk ch (p + rsN (rsV ch p)) = N ∧ o.1.toInt = 0 ∧ (∀ j, j ≠ 23 → o.2.2 j = A j) ∧ (o.2.2 23 g).toInt = rsV ch p ∧ (∀ i, i ≠ g → o.2.2 23 i = A 23 i) ∧ ∀ j, j ≠ 37 → o.2.1 j = I j) ∨ (¬ (AGr L (rsV ch p) ∧ blk ch (p + rsN (rsV ch p)) = N) ∧ 0 < o.1.toInt) := fun hq hlt hf => by
      unfold f_readGame_117 at hf
      obtain ⟨v8, e8, hf⟩ := m_bndE hf
      have t8 : v8.toInt = x4.toInt + 1 := ti_add e8 rfl (show (1 : Int32).toInt = 1 from rfl) (by omega) (by omega)
      refine ih v8 (by omega) (by omega) (fun i i0 i1 => ?_) hf
      by_cases e : i = x4.toInt
      · rw [e]; exact hq
      · exact hs i i0 (by omega)
    unfold f_readGame_74s at hf
    obtain ⟨-, hf⟩ := m_chkE hf
    obtain ⟨v1, e1, hf⟩ := m_bndE hf
    have q1 : v1.toInt = (L.length : Int) := by rw [e1, xn]; exact tg.1
    rcases m_ifE hf with ⟨c1, hf⟩ | ⟨c1, hf⟩
    · replace c1 := ti_leP (a := v1) (b := x4) c1 rfl rfl
      have ag : AGr L (rsV ch p) := fun i i0 i1 => hs i i0 (by omega)
      obtain ⟨-, hf⟩ := m_chkE hf
      obtain ⟨A2, e2, hf⟩ := m_bndE hf
      rw [xn] at e2
      have o2 : ∀ j, j ≠ 23 → A2 j = A j := fun j hj => by rw [e2]; exact va_up_ne _ _ hj
      have s2 : A2 23 g = x3 := by rw [e2, va_up_self, upd_self]
      have u2 : ∀ i, i ≠ g → A2 23 i = A 23 i := fun i hi => by rw [e2, va_up_self, upd_ne hi]
      have hA2 : TK A2 := by rw [e2]; exact tk_u h.1.2 (show (-1 : Int) ≤ x3.toInt by omega) (show x3.toInt ≤ (3 : Int) by omega)
      have R2 : RV I A2 ch N p := rv_A h hA2 (o2 2 (by decide))
      have rn := rsV_N (N := N) (fun i hi => rv_out h hi) hr
      have nb := rsN_b (rsV ch p)
      have rv := rsN_v (rsV ch p)
      have fin : ∀ t0 : Int32, t0.toInt = rsN (rsV ch p) → f_readGame_154 t0 (I 37) I A2 = some o → (AGr L (rsV ch p) ∧ blk ch (p + rsN (rsV ch p)) = N ∧ o.1.toInt = 0 ∧ (∀ j, j ≠ 23 → o.2.2 j = A j) ∧ (o.2.2 23 g).toInt = rsV ch p ∧ (∀ i, i ≠ g → o.2.2 23 i = A 23 i) ∧ ∀ j, j ≠ 37 → o.2.1 j = I j) ∨ (¬ (AGr L (rsV ch p) ∧ blk ch (p + rsN (rsV ch p)) = N) ∧ 0 < o.1.toInt) := fun t0 ht hf => by
        obtain ⟨a1, a2, a3⟩ := rg_154 R2 rn ht h37 (Int.le_trans (by decide) nb.1) hf
        rcases a3 with ⟨a3, a4⟩ | ⟨a3, a4⟩
        · refine Or.inl ⟨ag, a3, a4, fun j hj => by rw [a1]; exact o2 j hj, by rw [a1, s2]; exact h3, fun i hi => by rw [a1]; exact u2 i hi, a2⟩
        · exact Or.inr ⟨fun hh => a3 hh.2, a4⟩
      rcases m_ifE hf with ⟨c2, hf⟩ | ⟨c2, hf⟩
      · replace c2 := ti_eqP (a := x3) (b := (0 : Int32)) c2 rfl (show (0 : Int32).toInt = 0 from rfl)
        refine fin 1 ?_ hf
        rw [rv, if_neg (by omega), if_neg (by omega), if_neg (by omega)]; rfl
      · replace c2 := ti_eqN (a := x3) (b := (0 : Int32)) c2 rfl (show (0 : Int32).toInt = 0 from rfl)
        rcases m_ifE hf with ⟨c3, hf⟩ | ⟨c3, hf⟩
        · replace c3 := ti_eqP (a := x3) (b := (3 : Int32)) c3 rfl (show (3 : Int32).toInt = 3 from rfl)
          refine fin 7 ?_ hf
          rw [rv, if_neg (by omega), if_neg (by omega), if_pos (by omega)]; rfl
        · replace c3 := ti_eqN (a := x3) (b := (3 : Int32)) c3 rfl (show (3 : Int32).toInt = 3 from rfl)
          refine fin 3 ?_ hf
          by_cases e1 : rsV ch p = 1
          · rw [rv, if_pos e1]; rfl
          · rw [rv, if_neg e1, if_pos (by omega)]; rfl
    · replace c1 := ti_leN (a := v1) (b := x4) c1 rfl rfl
      obtain ⟨n4, v4⟩ := tg.2.2 x4.toInt h40 (by omega)
      obtain ⟨r3, h_r3, hf⟩ := m_clR hf (fun _ h => rro_isTag h)
      obtain ⟨b3, q3⟩ := v_isTag (x3 := 1) n4 hg2 (by omega) rfl h1 (Or.inr ⟨rfl, rfl⟩) h_r3
      dsimp only at b3 q3
      rcases m_ifE hf with ⟨c2, hf⟩ | ⟨c2, hf⟩
      · replace c2 := ti_eqP (a := r3) (b := (0 : Int32)) c2 rfl (show (0 : Int32).toInt = 0 from rfl)
        exact go (fun e => by have := q3.2 e; omega) (by omega) hf
      · replace c2 := ti_eqN (a := r3) (b := (0 : Int32)) c2 rfl (show (0 : Int32).toInt = 0 from rfl)
        obtain ⟨r4, h_r4, hf⟩ := m_clR hf (fun _ h => rro_isResultValue h)
        obtain ⟨b4, q4⟩ := v_isResultValue v4 hg2 (by omega) h1 rfl (by omega) h_r4
        dsimp only at b4 q4
        rw [h3] at q4
        rcases m_ifE hf with ⟨c3, hf⟩ | ⟨c3, hf⟩
        · replace c3 := ti_eqP (a := r4) (b := (0 : Int32)) c3 rfl (show (0 : Int32).toInt = 0 from rfl)
          obtain ⟨r5, h_r5, hf⟩ := m_clR hf (fun _ h => rro_fault h)
          have z9 : (9 : Int32).toInt = 9 := rfl
          have q5 := v_fault (x1 := 9) (x2 := I 37) (by decide) (by omega) h_r5
          dsimp only at q5
          cases hf
          refine Or.inr ⟨fun hh => ?_, show 0 < r5.toInt by omega⟩
          have := q4.2 (hh.1 x4.toInt h40 (by omega) (q3.1 (by omega)))
          omega
        · replace c3 := ti_eqN (a := r4) (b := (0 : Int32)) c3 rfl (show (0 : Int32).toInt = 0 from rfl)
          exact go (fun _ => q4.1 (by omega)) (by omega) hf
theorem tgr_e {A' : Nat → Nat → Int32} (h : TGr A (g : Int) L) (e : ∀ j, 18 ≤ j → j ≤ 22 → A' j = A j) : TGr A' (g : Int) L := by
  unfold TGr NMr VLr at h ⊢
  rw [e 18 (by decide) (by decide), e 19 (by decide) (by decide), e 20 (by decide) (by decide), e 21 (by decide) (by decide), e 22 (by decide) (by decide)]
  exact h
/-- the reference reads a game -/
theorem v_readGame (hI : TJ I) (hA : TK A) (hc : txR I A = ch) (hn : (I 1).toInt = N) (hN : 0 ≤ N ∧ N ≤ 2000) (hcb : ∀ i, 0 ≤ ch i ∧ ch i ≤ 127) (hg : g ≤ 1) (h29 : (I 29).toInt ≤ 1999) (tg : TGr A (g : Int) []) (sp : SPp A g st00) (tr : TRr A g T00) (h1 : x1.toInt = (g : Int)) (hf : f_readGame x1 I A = some o) : (∃ L st T r, rdP ch N = some (L, st, T, r) ∧ o.1.toInt = 0 ∧ GMr o.2.2 g L st T r) ∨ (rdP ch N = none ∧ 0 < o.1.toInt) := by
  have hf : f_readGame_0 x1 I A = some o := hf
  have z0 : (0 : Int32).toInt = 0 := rfl
  unfold f_readGame_0 at hf
  obtain ⟨I1, e1, hf⟩ := m_bndE hf
  have j1 : I1 1 = I 1 := by rw [e1, upd_ne (by decide)]
  have R1 : RV I1 A ch N 0 := ⟨⟨by rw [e1]; exact tj_u hI (show (0 : Int) ≤ (0 : Int32).toInt by decide) (show (0 : Int32).toInt ≤ (2100 : Int) by decide), hA⟩, ⟨by rw [← hc]; funext i; unfold txR; rw [j1], by rw [j1]; exact hn, hN⟩, hcb, by rw [e1, upd_self]; rfl, by decide, by decide⟩
  obtain ⟨⟨r2, Ic2, Ac2⟩, h_r2, hf⟩ := m_clE hf
  dsimp only at hf
  obtain ⟨b1, b2, b3, b4, b5⟩ := rv_bl R1 h_r2
  dsimp only at b2 b3 b4
  rw [b3] at hf b2
  have i29 : Ic2 29 = I 29 := by rw [b4 29 (by decide), e1, upd_ne (by decide)]
  rcases rg_9 (o := o) h1 mFuel Ic2 A 9 (blk ch 0) [] st00 ⟨⟨b2, by omega, hg, by rw [i29]; exact h29⟩, tg, sp, ⟨tr, wt_00, rfl⟩, pgd_00, by decide, by decide⟩ (by decide) hf with ⟨r, I3, A3, a1, a2, a3⟩ | ⟨a1, a2⟩
  · have tg3 := a2.2.1
    unfold RGT at a3
    obtain ⟨⟨r4, Ic4, Ac4⟩, h_r4, hf⟩ := m_clE a3
    dsimp only at hf
    rcases rs_rk (rs_hr a2) h1 (x2 := 0) (k := 0) rfl (Nat.zero_le _) h_r4 with ⟨e, w, c1, c2, c3⟩ | ⟨c1, c2, c3⟩
    · dsimp only at c2 c3
      have c1 : rmkP ch N 2001 (blk ch r.1) [] = some (e, w) := c1
      rcases m_ifE hf with ⟨-, hf⟩ | ⟨k1, hf⟩
      · obtain ⟨⟨r5, Ic5, Ac5⟩, h_r5, hf⟩ := m_clE hf
        dsimp only at hf
        have h5 : fr_readLine 8 x1 0 0 Ic4 Ac4 = some (r5, Ic5, Ac5) := h_r5
        have hl := rl_all h1 8 0 0 Ic4 Ac4 0 [] e (rkT T00 0 w) _ rfl (Nat.zero_le _) rfl (by decide) c3 h5
        have ep : 0 ≤ e := c3.1.2.2.2.2.1
        rcases hl with ⟨d1, d2, d3⟩ | ⟨d1, e2, T', d2, d3, d4⟩
        · dsimp only at d1 d2
          refine Or.inr ⟨?_, ?_⟩
          · unfold rdP
            simp only [a1, c1, d3 2001 (show N < e + ((2001 : Nat) : Int) by omega)]
          · unfold f_readGame_59 at hf
            rcases m_ifE hf with ⟨k2, hf⟩ | ⟨k2, hf⟩
            · replace k2 := ti_leP (a := r5) (b := (0 : Int32)) k2 rfl (show (0 : Int32).toInt = 0 from rfl)
              omega
            · cases hf
              exact d1
        · dsimp only at d1 d2
          rcases d4 with ⟨-, d5, d6⟩ | ⟨d5, -⟩
          · have d7 := d6 2001 (show N < e + ((2001 : Nat) : Int) by omega)
            unfold f_readGame_59 at hf
            rcases m_ifE hf with ⟨-, hf⟩ | ⟨k2, hf⟩
            · obtain ⟨⟨r6, Ic6, Ac6⟩, h_r6, hf⟩ := m_clE hf
              dsimp only at hf
              obtain ⟨rv5, hp5, -, tr5, sp5, wl5, rd5, A5, I5⟩ := id d2
              obtain ⟨q6, q7⟩ := v_resultHere rv5.2.1.1 rv5.2.1.2.1 (by omega) rv5.2.2.2.1 (by have := rv5.2.2.2.2; omega) h_r6
              dsimp only at q6 q7
              have e6 : Ic6 = Ic5 := congrArg Prod.fst q6
              have e7 : Ac6 = Ac5 := congrArg Prod.snd q6
              rw [e6, e7] at hf
              have tg5 : TGr Ac5 (g : Int) r.2.1 := tgr_e tg3 (fun j j1 j2 => A5 j (by omega) (by omega))
              rcases rg_74 rv5 hp5 hg h1 tg5 q7 d5 mFuel 0 (by decide) (show (0 : Int) ≤ (r.2.1.length : Int) by omega) (fun i i0 i1 => by omega) hf with ⟨f1, f2, f3, f4, f5, f6, f7⟩ | ⟨f1, f2⟩
              · refine Or.inl ⟨r.2.1, r.2.2, T', rsV ch e2, ?_, f3, ⟨⟨trr_e hg (by have := wl5.1.1; omega) tr5 (by rw [f4 7 (by decide)]) (fun j hj => f4 j (by omega)), wl5⟩, ⟨?_, sp5.2⟩, tgr_e tg5 (fun j j1 j2 => f4 j (by omega)), f5⟩⟩
                · unfold rdP
                  simp only [a1, c1, d7]
                  exact if_pos ⟨f1, f2⟩
                · have s1 := sp5.1
                  unfold SPo at s1 ⊢
                  rw [f4 16 (by decide), f4 17 (by decide)]
                  exact s1
              · refine Or.inr ⟨?_, f2⟩
                unfold rdP
                simp only [a1, c1, d7]
                exact if_neg f1
            · replace k2 := ti_leN (a := r5) (b := (0 : Int32)) k2 rfl (show (0 : Int32).toInt = 0 from rfl)
              omega
          · exact absurd rfl d5
      · replace k1 := ti_leN (a := r4) (b := (0 : Int32)) k1 rfl (show (0 : Int32).toInt = 0 from rfl)
        omega
    · dsimp only at c2 c3
      have c1 : rmkP ch N 2001 (blk ch r.1) [] = none := c1
      rcases m_ifE hf with ⟨k1, hf⟩ | ⟨-, hf⟩
      · replace k1 := ti_leP (a := r4) (b := (0 : Int32)) k1 rfl (show (0 : Int32).toInt = 0 from rfl)
        omega
      · unfold f_readGame_59 at hf
        rcases m_ifE hf with ⟨k2, hf⟩ | ⟨k2, hf⟩
        · replace k2 := ti_leP (a := r4) (b := (0 : Int32)) k2 rfl (show (0 : Int32).toInt = 0 from rfl)
          omega
        · cases hf
          refine Or.inr ⟨?_, c2⟩
          unfold rdP
          simp only [a1, c1]
  · refine Or.inr ⟨?_, a2⟩
    unfold rdP
    simp only [a1]
end RGE
end
section
section CLG
variable {I : Nat → Int32} {A : Nat → Nat → Int32} {g : Nat} {o : Int32 × MS} {x1 : Int32}
/-- the reference's game begins anew -/
theorem v_clearGame (hg : g ≤ 1) (h1 : x1.toInt = (g : Int)) (hf : f_clearGame x1 I A = some o) : o.2.1 = I ∧ TRr o.2.2 g T00 ∧ TGr o.2.2 (g : Int) [] := by
  have hf : f_clearGame_0 x1 I A = some o := hf
  have xn : x1.toNatClampNeg = g := cl_n h1
  unfold f_clearGame_0 at hf
  obtain ⟨-, hf⟩ := m_chkE hf
  obtain ⟨A1, e1, hf⟩ := m_bndE hf
  obtain ⟨-, hf⟩ := m_chkE hf
  obtain ⟨A2, e2, hf⟩ := m_bndE hf
  obtain ⟨-, hf⟩ := m_chkE hf
  obtain ⟨A3, e3, hf⟩ := m_bndE hf
  obtain ⟨v4, e4, hf⟩ := m_bndE hf
  have t4 : v4.toInt = 301 * x1.toInt := ti_mul e4 (show (301 : Int32).toInt = 301 from rfl) rfl (by omega) (by omega)
  have i4 : v4.toNatClampNeg = 301 * g := cl_n (by omega)
  obtain ⟨⟨r5, Ic5, Ac5⟩, h_r5, hf⟩ := m_clE hf
  dsimp only at hf
  have h5 : f_clearNode_0 v4 I A3 = some (r5, Ic5, Ac5) := h_r5
  unfold f_clearNode_0 at h5
  obtain ⟨-, h5⟩ := m_chkE h5
  obtain ⟨B1, n1, h5⟩ := m_bndE h5
  obtain ⟨-, h5⟩ := m_chkE h5
  obtain ⟨B2, n2, h5⟩ := m_bndE h5
  obtain ⟨-, h5⟩ := m_chkE h5
  obtain ⟨B3, n3, h5⟩ := m_bndE h5
  obtain ⟨-, h5⟩ := m_chkE h5
  obtain ⟨B4, n4, h5⟩ := m_bndE h5
  have i5 := Option.some.inj h5
  have j1 : I = Ic5 := congrArg (fun z => z.2.1) i5
  have j2 : B4 = Ac5 := congrArg (fun z => z.2.2) i5
  rw [← j1, ← j2] at hf
  obtain ⟨v6, e6, hf⟩ := m_bndE hf
  have t6 : v6.toInt = 301 * x1.toInt := ti_mul e6 (show (301 : Int32).toInt = 301 from rfl) rfl (by omega) (by omega)
  have i6 : v6.toNatClampNeg = 301 * g := cl_n (by omega)
  obtain ⟨-, hf⟩ := m_chkE hf
  obtain ⟨A7, e7, hf⟩ := m_bndE hf
  obtain ⟨v8, e8, hf⟩ := m_bndE hf
  have t8 : v8.toInt = 301 * x1.toInt := ti_mul e8 (show (301 : Int32).toInt = 301 from rfl) rfl (by omega) (by omega)
  have i8 : v8.toNatClampNeg = 301 * g := cl_n (by omega)
  obtain ⟨-, hf⟩ := m_chkE hf
  obtain ⟨A9, e9, hf⟩ := m_bndE hf
  rw [xn] at e1 e2 e3
  rw [i4] at n1 n2 n3 n4
  rw [i6] at e7
  rw [i8] at e9
  cases hf
  have k7 : A9 7 g = 0 := by rw [e9, va_up_ne _ _ (by decide), e7, va_up_ne _ _ (by decide), n4, va_up_ne _ _ (by decide), n3, va_up_ne _ _ (by decide), n2, va_up_ne _ _ (by decide), n1, va_up_ne _ _ (by decide), e3, va_up_ne _ _ (by decide), e2, va_up_ne _ _ (by decide), e1, va_up_self, upd_self]
  have k8 : A9 8 (301 * g) = -1 := by rw [e9, va_up_ne _ _ (by decide), e7, va_up_self, upd_self]
  have k9 : A9 9 (301 * g) = -1 := by rw [e9, va_up_self, upd_self]
  have k10 : A9 10 (301 * g) = -1 := by rw [e9, va_up_ne _ _ (by decide), e7, va_up_ne _ _ (by decide), n4, va_up_ne _ _ (by decide), n3, va_up_ne _ _ (by decide), n2, va_up_ne _ _ (by decide), n1, va_up_self, upd_self]
  have k12 : A9 12 (301 * g) = 0 := by rw [e9, va_up_ne _ _ (by decide), e7, va_up_ne _ _ (by decide), n4, va_up_ne _ _ (by decide), n3, va_up_self, upd_self]
  have k14 : A9 14 (301 * g) = 0 := by rw [e9, va_up_ne _ _ (by decide), e7, va_up_ne _ _ (by decide), n4, va_up_self, upd_self]
  have k18 : A9 18 g = 0 := by rw [e9, va_up_ne _ _ (by decide), e7, va_up_ne _ _ (by decide), n4, va_up_ne _ _ (by decide), n3, va_up_ne _ _ (by decide), n2, va_up_ne _ _ (by decide), n1, va_up_ne _ _ (by decide), e3, va_up_ne _ _ (by decide), e2, va_up_self, upd_self]
  refine ⟨rfl, ⟨?_, fun p hp => ?_, fun k hk => ?_⟩, ?_, Nat.zero_le _, fun i i0 i1 => absurd (show i < 0 from i1) (by omega)⟩
  · show (A9 7 g).toInt.toNat = 0
    rw [k7]; rfl
  · have p0 : p = 0 := Nat.le_zero.1 hp
    subst p0
    refine ⟨?_, List.nodup_nil, fun k => ⟨(fun hk => by cases hk), fun ⟨k1, k2, _⟩ => absurd (show k ≤ 0 from k2) (by omega)⟩⟩
    show (A9 10 (301 * g + 0)).toInt = -1
    rw [Nat.add_zero, k10]; rfl
  · have k0 : k = 0 := Nat.le_zero.1 hk
    subst k0
    refine ⟨⟨?_, ?_⟩, ⟨?_, fun i hi => absurd hi (Nat.not_lt_zero _)⟩, ⟨?_, fun i hi => absurd hi (Nat.not_lt_zero _)⟩⟩
    · show (A9 8 (301 * g + 0)).toInt = -1
      rw [Nat.add_zero, k8]; rfl
    · show (A9 9 (301 * g + 0)).toInt = -1
      rw [Nat.add_zero, k9]; rfl
    · show (A9 12 (301 * g + 0)).toInt = 0
      rw [Nat.add_zero, k12]; rfl
    · show (A9 14 (301 * g + 0)).toInt = 0
      rw [Nat.add_zero, k14]; rfl
  · show (A9 18 (g : Int).toNat).toInt = 0
    rw [Int.toNat_natCast, k18]; rfl
theorem us_23 (hg : g ≤ 1) (h1 : x1.toInt = (g : Int)) : ∀ (n : Nat) (x2 : Int32) (A : Nat → Nat → Int32), (0 ≤ x2.toInt ∧ x2.toInt ≤ 8) → mR A = (fun s => if s % 8 < x2.toInt then m00 s else 0) → f_usual_23 n x1 x2 I A = some o → SPp o.2.2 g st00 := by
  intro n
  induction n with
  | zero => intro x2 A _ _ hf; cases hf
  | succ n ih =>
    intro x2 A hx hm hf
    have hf : f_usual_23s (f_usual_23 n) x1 x2 I A = some o := hf
    have go : ∀ t0 : Int32, x2.toInt < 8 → t0.toInt = fr0 x2.toInt → f_usual_83 (f_usual_23 n) x1 x2 t0 I A = some o → SPp o.2.2 g st00 := fun t0 hlt ht hf => by
      have f2 := fr0_v (s := x2.toInt) (by omega) hlt
      unfold f_usual_83 at hf
      obtain ⟨-, hf⟩ := m_chkE hf
      obtain ⟨A1, e_A1, hf⟩ := m_bndE hf
      obtain ⟨v2, e_v2, hf⟩ := m_bndE hf
      have t_v2 : v2.toInt = 8 + x2.toInt := ti_add e_v2 (show (8 : Int32).toInt = 8 from rfl) rfl (by omega) (by omega)
      obtain ⟨-, hf⟩ := m_chkE hf
      obtain ⟨A3, e_A3, hf⟩ := m_bndE hf
      obtain ⟨v4, e_v4, hf⟩ := m_bndE hf
      have t_v4 : v4.toInt = 48 + x2.toInt := ti_add e_v4 (show (48 : Int32).toInt = 48 from rfl) rfl (by omega) (by omega)
      obtain ⟨-, hf⟩ := m_chkE hf
      obtain ⟨A5, e_A5, hf⟩ := m_bndE hf
      obtain ⟨v6, e_v6, hf⟩ := m_bndE hf
      have t_v6 : v6.toInt = 56 + x2.toInt := ti_add e_v6 (show (56 : Int32).toInt = 56 from rfl) rfl (by omega) (by omega)
      obtain ⟨v7, e_v7, hf⟩ := m_bndE hf
      have t_v7 : v7.toInt = t0.toInt + 8 := ti_add e_v7 rfl (show (8 : Int32).toInt = 8 from rfl) (by omega) (by omega)
      obtain ⟨-, hf⟩ := m_chkE hf
      obtain ⟨A8, e_A8, hf⟩ := m_bndE hf
      obtain ⟨v9, e_v9, hf⟩ := m_bndE hf
      have t_v9 : v9.toInt = x2.toInt + 1 := ti_add e_v9 rfl (show (1 : Int32).toInt = 1 from rfl) (by omega) (by omega)
      have m1 := mR_up e_A1 (by omega) (by omega)
      have m3 := mR_up e_A3 (by omega) (by omega)
      have m5 := mR_up e_A5 (by omega) (by omega)
      have m8 := mR_up e_A8 (by omega) (by omega)
      refine ih v9 A8 (by omega) ?_ hf
      rw [m8, m5, m3, m1, hm, t_v9, t_v7, t_v6, t_v4, t_v2, ht, show (9 : Int32).toInt = 9 from rfl, show (1 : Int32).toInt = 1 from rfl, show (8 : Int) + x2.toInt = x2.toInt + 8 by omega, show (48 : Int) + x2.toInt = x2.toInt + 48 by omega, show (56 : Int) + x2.toInt = x2.toInt + 56 by omega]
      exact su_m hx.1 hlt
    unfold f_usual_23s at hf
    rcases m_ifE hf with ⟨c1, hf⟩ | ⟨c1, hf⟩
    · replace c1 := ti_leP (a := (8 : Int32)) (b := x2) c1 (show (8 : Int32).toInt = 8 from rfl) rfl
      obtain ⟨I1, e1, hf⟩ := m_bndE hf
      obtain ⟨I2, e2, hf⟩ := m_bndE hf
      obtain ⟨I3, e3, hf⟩ := m_bndE hf
      obtain ⟨I4, e4, hf⟩ := m_bndE hf
      obtain ⟨I5, e5, hf⟩ := m_bndE hf
      obtain ⟨⟨r6, Ic6, Ac6⟩, h_r6, hf⟩ := m_clE hf
      dsimp only at hf
      have mm : mR A = m00 := by
        rw [hm]
        funext s
        rw [if_pos (by omega)]
      obtain ⟨-, a2, -⟩ := v_start (g := (g : Int)) (by omega) h1 mm h_r6
      dsimp only at a2
      cases hf
      have j25 : (I5 25).toInt = 0 := by rw [e5, upd_ne (by decide), e4, upd_ne (by decide), e3, upd_ne (by decide), e2, upd_ne (by decide), e1, upd_self]; rfl
      have j26 : (I5 26).toInt = 15 := by rw [e5, upd_ne (by decide), e4, upd_ne (by decide), e3, upd_ne (by decide), e2, upd_self]; rfl
      have j27 : (I5 27).toInt = -1 := by rw [e5, upd_ne (by decide), e4, upd_ne (by decide), e3, upd_self]; rfl
      have j29 : (I5 29).toInt = 1 := by rw [e5, upd_self]; rfl
      rw [j25, j26, j27, j29] at a2
      exact ⟨a2, fun s hs => m00_x (by omega)⟩
    · replace c1 := ti_leN (a := (8 : Int32)) (b := x2) c1 (show (8 : Int32).toInt = 8 from rfl) rfl
      rcases m_ifE hf with ⟨c2, hf⟩ | ⟨d0, hf⟩
      · replace c2 := ti_eqP (a := x2) (b := (0 : Int32)) c2 rfl (show (0 : Int32).toInt = 0 from rfl)
        unfold f_usual_39 at hf
        exact go 4 (by omega) (by rw [c2]; decide) hf
      replace d0 := ti_eqN (a := x2) (b := (0 : Int32)) d0 rfl (show (0 : Int32).toInt = 0 from rfl)
      rcases m_ifE hf with ⟨c2, hf⟩ | ⟨d7, hf⟩
      · replace c2 := ti_eqP (a := x2) (b := (7 : Int32)) c2 rfl (show (7 : Int32).toInt = 7 from rfl)
        unfold f_usual_39 at hf
        exact go 4 (by omega) (by rw [c2]; decide) hf
      replace d7 := ti_eqN (a := x2) (b := (7 : Int32)) d7 rfl (show (7 : Int32).toInt = 7 from rfl)
      rcases m_ifE hf with ⟨c2, hf⟩ | ⟨d1, hf⟩
      · replace c2 := ti_eqP (a := x2) (b := (1 : Int32)) c2 rfl (show (1 : Int32).toInt = 1 from rfl)
        unfold f_usual_54 at hf
        exact go 2 (by omega) (by rw [c2]; decide) hf
      replace d1 := ti_eqN (a := x2) (b := (1 : Int32)) d1 rfl (show (1 : Int32).toInt = 1 from rfl)
      rcases m_ifE hf with ⟨c2, hf⟩ | ⟨d6, hf⟩
      · replace c2 := ti_eqP (a := x2) (b := (6 : Int32)) c2 rfl (show (6 : Int32).toInt = 6 from rfl)
        unfold f_usual_54 at hf
        exact go 2 (by omega) (by rw [c2]; decide) hf
      replace d6 := ti_eqN (a := x2) (b := (6 : Int32)) d6 rfl (show (6 : Int32).toInt = 6 from rfl)
      rcases m_ifE hf with ⟨c2, hf⟩ | ⟨d2, hf⟩
      · replace c2 := ti_eqP (a := x2) (b := (2 : Int32)) c2 rfl (show (2 : Int32).toInt = 2 from rfl)
        unfold f_usual_68 at hf
        exact go 3 (by omega) (by rw [c2]; decide) hf
      replace d2 := ti_eqN (a := x2) (b := (2 : Int32)) d2 rfl (show (2 : Int32).toInt = 2 from rfl)
      rcases m_ifE hf with ⟨c2, hf⟩ | ⟨d5, hf⟩
      · replace c2 := ti_eqP (a := x2) (b := (5 : Int32)) c2 rfl (show (5 : Int32).toInt = 5 from rfl)
        unfold f_usual_68 at hf
        exact go 3 (by omega) (by rw [c2]; decide) hf
      replace d5 := ti_eqN (a := x2) (b := (5 : Int32)) d5 rfl (show (5 : Int32).toInt = 5 from rfl)
      rcases m_ifE hf with ⟨c2, hf⟩ | ⟨d3, hf⟩
      · replace c2 := ti_eqP (a := x2) (b := (3 : Int32)) c2 rfl (show (3 : Int32).toInt = 3 from rfl)
        exact go 5 (by omega) (by rw [c2]; decide) hf
      replace d3 := ti_eqN (a := x2) (b := (3 : Int32)) d3 rfl (show (3 : Int32).toInt = 3 from rfl)
      exact go 6 (by omega) (by rw [show x2.toInt = 4 by omega]; decide) hf
theorem v_usual (hg : g ≤ 1) (h1 : x1.toInt = (g : Int)) (hf : f_usual x1 I A = some o) : SPp o.2.2 g st00 := by
  have hf : f_usual_2 mFuel x1 0 I A = some o := hf
  have key : ∀ (n : Nat) (x2 : Int32) (A : Nat → Nat → Int32), (0 ≤ x2.toInt ∧ x2.toInt ≤ 64) → (∀ s, 0 ≤ s → s < x2.toInt → mR A s = 0) → f_usual_2 n x1 x2 I A = some o → SPp o.2.2 g st00 := by
    intro n
    induction n with
    | zero => intro x2 A _ _ hf; cases hf
    | succ n ih =>
      intro x2 A hx hm hf
      have hf : f_usual_2s (f_usual_2 n) x1 x2 I A = some o := hf
      unfold f_usual_2s at hf
      rcases m_ifE hf with ⟨c1, hf⟩ | ⟨c1, hf⟩
      · skip
        replace c1 := ti_leP (a := (64 : Int32)) (b := x2) c1 (show (64 : Int32).toInt = 64 from rfl) rfl
        refine us_23 hg h1 mFuel 0 A (by decide) ?_ hf
        funext s
        rw [if_neg (show ¬ s % 8 < (0 : Int32).toInt by have z : (0 : Int32).toInt = 0 := rfl; omega)]
        by_cases e : 0 ≤ s ∧ s < 64
        · exact hm s e.1 (by omega)
        · unfold mR; rw [if_neg e]
      · skip
        replace c1 := ti_leN (a := (64 : Int32)) (b := x2) c1 (show (64 : Int32).toInt = 64 from rfl) rfl
        obtain ⟨-, hf⟩ := m_chkE hf
        obtain ⟨A1, e_A1, hf⟩ := m_bndE hf
        obtain ⟨v2, e_v2, hf⟩ := m_bndE hf
        have t_v2 : v2.toInt = x2.toInt + 1 := ti_add e_v2 rfl (show (1 : Int32).toInt = 1 from rfl) (by omega) (by omega)
        have m1 := mR_up e_A1 (by omega) (by omega)
        refine ih v2 A1 (by omega) (fun s s0 s1 => ?_) hf
        rw [m1]
        by_cases e : s = x2.toInt
        · rw [e, up_s]; rfl
        · rw [up_n e]; exact hm s s0 (by omega)
  exact key mFuel 0 A (by decide) (fun s s0 s1 => by have z : (0 : Int32).toInt = 0 := rfl; omega) hf
end CLG
end
section
section RDR
variable {I : Nat → Int32} {A : Nat → Nat → Int32} {g : Nat} {ch : Int → Int} {N r : Int} {st : PO} {L : List (List Int × List Int)} {T : TRa} {o : Int32 × MS} {x2 : Int32}
theorem gmr_e {A' : Nat → Nat → Int32} (hg : g ≤ 1) (h : GMr A g L st T r) (e : ∀ j, j ≤ 23 → A' j = A j) : GMr A' g L st T r := by
  obtain ⟨⟨tr, hw, hl⟩, sp, tg, hr⟩ := h
  have h3 := hw.1
  refine ⟨⟨trr_e hg h3 tr (by rw [e 7 (by decide)]) (fun j hj => e j (by omega)), hw, hl⟩, ⟨?_, sp.2⟩, tgr_e tg (fun j j1 j2 => e j (by omega)), by rw [e 23 (by decide)]; exact hr⟩
  have s1 := sp.1
  unfold SPo at s1 ⊢
  rw [e 16 (by decide), e 17 (by decide)]
  exact s1
theorem rd_47 (hf : f_read_47 x2 I A = some o) : o.1 = x2 ∧ (∀ j, j ∉ [25, 26, 27, 28, 29, 33] → o.2.1 j = I j) ∧ ∀ j, j ∉ [24, 30, 31, 32, 34] → o.2.2 j = A j := by
  unfold f_read_47 at hf
  obtain ⟨⟨r1, Ic1, Ac1⟩, h_r1, hf⟩ := m_clE hf
  dsimp only at hf
  have fw := fw_place h_r1
  cases hf
  exact ⟨rfl, fw.1, fw.2⟩
/-- the reference's read -/
theorem v_read (hI : TJ I) (hA : TK A) (hc : txR I A = ch) (hn : (I 1).toInt = N) (hN : 0 ≤ N ∧ N ≤ 2000) (hcb : ∀ i, 0 ≤ ch i ∧ ch i ≤ 127) (h5 : (I 5).toInt = 1 - (g : Int)) (hg : g ≤ 1) (hf : f_read I A = some o) : (∃ L st T r, rdP ch N = some (L, st, T, r) ∧ o.1.toInt = 0 ∧ (o.2.1 1).toInt = 0 ∧ (o.2.1 5).toInt = (g : Int) ∧ (o.2.1 6).toInt = 0 ∧ GMr o.2.2 g L st T r) ∨ (rdP ch N = none ∧ 0 < o.1.toInt ∧ o.2.1 1 = I 1 ∧ o.2.2 2 = A 2 ∧ o.2.1 5 = I 5 ∧ o.2.1 6 = I 6) := by
  have hf : f_read_0 I A = some o := hf
  unfold f_read_0 at hf
  obtain ⟨I1, e1, hf⟩ := m_bndE hf
  have hI1 : TJ I1 := by rw [e1]; exact tj_u hI (show (0 : Int) ≤ (0 : Int32).toInt by decide) (show (0 : Int32).toInt ≤ (2 : Int) by decide)
  have j5 : I1 5 = I 5 := by rw [e1, upd_ne (by decide)]
  obtain ⟨v2, e2, hf⟩ := m_bndE hf
  have t2 : v2.toInt = 1 - (I1 5).toInt := ti_sub e2 (show (1 : Int32).toInt = 1 from rfl) rfl (by rw [j5]; omega) (by rw [j5]; omega)
  have q2 : v2.toInt = (g : Int) := by rw [t2, j5]; omega
  obtain ⟨⟨r3, Ic3, Ac3⟩, h_r3, hf⟩ := m_clE hf
  dsimp only at hf
  obtain ⟨hI3, hA3, -⟩ := ok_of (t_clearGame2 (gg := g) (x1 := v2) hI1 hA (by omega) q2) h_r3
  obtain ⟨a1, a2, a3⟩ := v_clearGame hg q2 h_r3
  have fc := fw_clearGame h_r3
  dsimp only at a1 a2 a3 hI3 hA3 fc
  obtain ⟨⟨r4, Ic4, Ac4⟩, h_r4, hf⟩ := m_clE hf
  dsimp only at hf
  obtain ⟨hI4, hA4, h29⟩ := ok_of (t_usual (x1 := v2) hI3 hA3 (by omega)) h_r4
  have sp4 := v_usual hg q2 h_r4
  have fu := fw_usual h_r4
  dsimp only at hI4 hA4 h29 sp4 fu
  have tr4 : TRr Ac4 g T00 := trr_e hg (Nat.zero_le _) a2 (by rw [fu.2 7 (by decide)]) (fun j hj => fu.2 j (by simp only [List.mem_cons, List.not_mem_nil, or_false]; omega))
  have tg4 : TGr Ac4 (g : Int) [] := tgr_e a3 (fun j j1 j2 => fu.2 j (by simp only [List.mem_cons, List.not_mem_nil, or_false]; omega))
  have k1 : ∀ j, j ≠ 0 → j ∉ [25, 26, 27, 28, 29] → Ic4 j = I j := fun j h0 hj => by
    rw [fu.1 j hj, a1, e1, upd_ne h0]
  have k2 : Ac4 2 = A 2 := by rw [fu.2 2 (by decide), fc.2 2 (by decide)]
  have c4 : txR Ic4 Ac4 = ch := by
    rw [← hc]
    funext i
    unfold txR
    rw [k1 1 (by decide) (by decide), k2]
  obtain ⟨⟨r5, Ic5, Ac5⟩, h_r5, hf⟩ := m_clE hf
  dsimp only at hf
  have fg := fw_readGame h_r5
  dsimp only at fg
  rcases v_readGame hI4 hA4 c4 (by rw [k1 1 (by decide) (by decide)]; exact hn) hN hcb hg (by omega) tg4 sp4 tr4 q2 h_r5 with ⟨L, st, T, r, b1, b2, b3⟩ | ⟨b1, b2⟩
  · dsimp only at b2 b3
    rcases m_ifE hf with ⟨-, hf⟩ | ⟨c1, hf⟩
    · obtain ⟨I6, e6, hf⟩ := m_bndE hf
      obtain ⟨I7, e7, hf⟩ := m_bndE hf
      obtain ⟨I8, e8, hf⟩ := m_bndE hf
      obtain ⟨d1, d2, d3⟩ := rd_47 hf
      refine Or.inl ⟨L, st, T, r, b1, by rw [d1]; exact b2, ?_, ?_, ?_, gmr_e hg b3 (fun j hj => d3 j (by simp only [List.mem_cons, List.not_mem_nil, or_false]; omega))⟩
      · rw [d2 1 (by decide), e8, upd_self]; rfl
      · rw [d2 5 (by decide), e8, upd_ne (by decide), e7, upd_ne (by decide), e6, upd_self]; exact q2
      · rw [d2 6 (by decide), e8, upd_ne (by decide), e7, upd_self]; rfl
    · exact absurd (i32_of b2) c1
  · dsimp only at b2
    rcases m_ifE hf with ⟨c1, hf⟩ | ⟨-, hf⟩
    · rw [c1] at b2; exact absurd b2 (by decide)
    · obtain ⟨d1, d2, d3⟩ := rd_47 hf
      refine Or.inr ⟨b1, by rw [d1]; exact b2, ?_, ?_, ?_, ?_⟩
      · rw [d2 1 (by decide), fg.1 1 (by decide), k1 1 (by decide) (by decide)]
      · rw [d3 2 (by decide), fg.2 2 (by decide), k2]
      · rw [d2 5 (by decide), fg.1 5 (by decide), k1 5 (by decide) (by decide)]
      · rw [d2 6 (by decide), fg.1 6 (by decide), k1 6 (by decide) (by decide)]
end RDR
end
section
section CP3
variable {S0 S S' : ZS} {x0 x1 : Nat} {u : List Int} {o : Int32 × ZS}
theorem ca_3 (hne : x1 ≠ x0) (hrc : rc x0 ≠ 2) (hu : u.length ≤ 200) (hcu : ∀ i, 0 ≤ wA u i ∧ wA u i ≤ 65535) : ∀ (n : Nat) (x2 : Int32) (S : ZS) (k : Nat), x2.toInt = (k : Int) → k ≤ u.length → ZT S → RWF S0 S x0 → RWL S x0 (u.take k) → RWL S x1 u → zK S x0 = 6 → zK S x1 = 6 → d_X6_putAll_2 n x0 x1 x2 S = some o → ZT o.2 ∧ RWF S0 o.2 x0 ∧ RWL o.2 x0 u := by
  intro n
  induction n with
  | zero => intro x2 S k _ _ _ _ _ _ _ _ hf; cases hf
  | succ n ih =>
    intro x2 S k hx hk hT hF h0 h1 k0 k1 hf
    have hf : d_X6_putAll_2s (d_X6_putAll_2 n) x0 x1 x2 S = some o := hf
    have l1 := h1.1
    have l0 := h0.1
    have rl := rL_ge x0
    have lt : (u.take k).length = k := by rw [List.length_take]; omega
    unfold d_X6_putAll_2s at hf
    obtain ⟨-, hf⟩ := m_chkE hf
    rcases m_ifE hf with ⟨c1, hf⟩ | ⟨c1, hf⟩
    · skip
      replace c1 := ti_leP (a := (zI S 1 x1)) (b := x2) c1 rfl rfl
      cases hf
      try dsimp only
      refine ⟨hT, hF, ?_⟩
      rw [List.take_of_length_le (by omega)] at h0
      exact h0
    · skip
      replace c1 := ti_leN (a := (zI S 1 x1)) (b := x2) c1 rfl rfl
      obtain ⟨-, hf⟩ := m_chkE hf
      obtain ⟨r1, h_r1, hf⟩ := m_calR hf (fun _ h => ro_X6_at h)
      dsimp only at hf
      have p_r1 := pc_X6_at h_r1
      dsimp only at p_r1
      rw [h1.2, hx] at p_r1
      have c1' := hcu (k : Int)
      obtain ⟨-, hf⟩ := m_chkE hf
      obtain ⟨-, hf⟩ := m_chkE hf
      obtain ⟨⟨r3, S4⟩, h_r3, hf⟩ := m_cal2E hf
      dsimp only at hf
      have T4 : ZT S4 := (ok_of (t_d_X6_put (SZ := S) hT (rp_0 S) k0 (by omega) (by rw [l0, lt]; omega) hrc) h_r3).1
      obtain ⟨g1, g2⟩ := p_rput hT k0 h0 (by rw [lt]; omega) (by omega) h_r3
      rw [p_r1, take_s (by omega)] at g1
      obtain ⟨v7, e_v7, hf⟩ := m_bndE hf
      have t_v7 : v7.toInt = x2.toInt + 1 := ti_add e_v7 rfl (show (1 : Int32).toInt = 1 from rfl) (by omega) (by omega)
      exact ih v7 S4 (k + 1) (by omega) (by omega) T4 (rwf_t hF g2) g1 (rwf_l g2 k1 hne h1) (by rw [(g2.1 x0 (by rw [k0]; decide)).1]; exact k0) (by rw [(g2.1 x1 (by rw [k1]; decide)).1]; exact k1) hf
/-- the same, for rows of at most 200 signs -/
theorem p_copy200 (hT : ZT S) (hne : x1 ≠ x0) (hrc : rc x0 ≠ 2) (hu : u.length ≤ 200) (hcu : ∀ i, 0 ≤ wA u i ∧ wA u i ≤ 65535) (h1 : RWL S x1 u) (k0 : zK S x0 = 6) (k1 : zK S x1 = 6) (hz : 0 ≤ (zI S 1 x0).toInt) (hf : d_X6_copyFrom x0 x1 S = some o) : ZT o.2 ∧ RWF S o.2 x0 ∧ RWL o.2 x0 u := by
  have hf : d_X6_copyFrom_0 x0 x1 S = some o := hf
  unfold d_X6_copyFrom_0 at hf
  obtain ⟨-, hf⟩ := m_chkE hf
  obtain ⟨S1, e1, hf⟩ := m_bndE hf
  obtain ⟨-, hf⟩ := m_chkE hf
  obtain ⟨⟨r3, S4⟩, h_r3, hf⟩ := m_cal2E hf
  dsimp only at hf
  obtain ⟨g1, g2⟩ := rwl_0 e1
  have T1 : ZT S1 := e1.symm ▸ zt_I0 hT k0 (fun _ => ⟨show (0 : Int) ≤ (0 : Int32).toInt by decide, show (0 : Int32).toInt ≤ _ from hz⟩) (fun e => absurd e.1 (by decide)) (tf_b _)
  have g := ca_3 (S0 := S) hne hrc hu hcu mFuel 0 S1 0 rfl (Nat.zero_le _) T1 g2 g1 (rwf_l g2 k1 hne h1) (by rw [(g2.1 x0 (by rw [k0]; decide)).1]; exact k0) (by rw [(g2.1 x1 (by rw [k1]; decide)).1]; exact k1) h_r3
  cases hf
  exact g
end CP3
/-- a text that may be a remark -/
noncomputable def SYo (ch : Int → Int) (N : Int) : Prop := N ≤ 200 ∧ ∀ i, 0 ≤ i → i < N → ch i ≠ 125 ∧ ch i ≠ 10
noncomputable def cuF (ch : Int → Int) (n : Int) : Int → Int := fun i => if i < n then ch i else 0
section CUS
variable {S S' : ZS} {g g' : Nat} {ch : Int → Int} {N : Int} {x1 : Int32}
theorem tx_l (hC : CG S) (hx : TXc S ch N) : ∃ w, RWL S 2 w ∧ (w.length : Int) = N ∧ (∀ i, wA w i = ch i) := by
  obtain ⟨w, hw⟩ := rwl_ex hC.1 (show zK S 2 = 6 from fx_k hC.2.2.1 (by decide) (by decide))
  exact ⟨w, hw, by rw [← hw.1]; exact hx.2.1, fun i => by rw [← hw.2 i, hx.1]⟩
theorem zt_k2 {n y : Int32} (hC : CG S) (h : TXc S ch N) (h0 : 0 ≤ n.toInt ∧ n.toInt ≤ N) (hf : f_X6_keep 2 n S = some (y, S')) : CG S' ∧ TXc S' (cuF ch n.toInt) n.toInt ∧ FR (fun a => a = 2) S S' := by
  have k2 : zK S 2 = 6 := fx_k hC.2.2.1 (by decide) (by decide)
  obtain ⟨w, hw, hl, hc⟩ := tx_l hC h
  obtain ⟨-, -, hN, hcb⟩ := id h
  obtain ⟨a1, a2, a3⟩ := p_keep hw h0.1 hf
  have T' : ZT S' := by
    rcases a3 with a3 | a3
    · rw [a3]; exact hC.1
    · rw [a3]
      exact zt_I0 hC.1 k2 (fun _ => ⟨h0.1, by rw [hw.1, hl]; exact h0.2⟩) (fun e => absurd e.1 (by decide)) (tf_b _)
  have F := fr_r a2 k2
  have Z' : TZ S' := tz_k hC.1 hC.2.1 F (fun a _ e => by rw [e, k2]; exact ⟨by decide, by decide, fun h => absurd h (by decide)⟩)
  have C' : CG S' := cg_w hC T' Z' F (by decide) (by decide) (by decide) (by decide)
  refine ⟨C', ⟨funext (fun i => ?_), ?_, ⟨h0.1, by omega⟩, fun i => ?_⟩, F⟩
  · rw [a1.2 i, wA_take, hc i]
    unfold cuF
    rw [show ((n.toInt.toNat : Nat) : Int) = n.toInt by omega]
  · rw [a1.1, List.length_take]
    omega
  · unfold cuF
    split
    · exact hcb i
    · decide
/-- the class's cut -/
theorem p_cut {o : Int32 × ZS} (hC : CG S) (hx : TXc S ch N) (hf : f_X11_cut 1 x1 S = some o) : ((0 ≤ x1.toInt ∧ x1.toInt ≤ N) ∧ o.1.toInt = 1 ∧ CG o.2 ∧ TXc o.2 (cuF ch x1.toInt) x1.toInt ∧ FR (fun a => a = 2) S o.2) ∨ (¬ (0 ≤ x1.toInt ∧ x1.toInt ≤ N) ∧ o.1.toInt = 0 ∧ o.2 = S) := by
  have hf : f_X11_cut_0 1 x1 S = some o := hf
  have p0 : zP S 0 1 = some 2 := fx_p hC.2.2.1 (by decide)
  have no : f_X11_cut_15 S = some o → o.1.toInt = 0 ∧ o.2 = S := fun hf => by
    unfold f_X11_cut_15 at hf
    obtain ⟨-, hf⟩ := m_chkE hf
    cases hf
    exact ⟨rfl, rfl⟩
  unfold f_X11_cut_0 at hf
  rcases m_ifE hf with ⟨c1, hf⟩ | ⟨c1, hf⟩
  · skip
    replace c1 := ti_ltP (a := x1) (b := (0 : Int32)) c1 rfl (show (0 : Int32).toInt = 0 from rfl)
    exact Or.inr ⟨by omega, no hf⟩
  · skip
    replace c1 := ti_ltN (a := x1) (b := (0 : Int32)) c1 rfl (show (0 : Int32).toInt = 0 from rfl)
    obtain ⟨-, hf⟩ := m_chkE hf
    replace hf := m_calY hf p0
    obtain ⟨-, hf⟩ := m_chkE hf
    obtain ⟨r2, h_r2, hf⟩ := m_calR hf (fun _ h => ro_X6_size h)
    dsimp only at hf
    have p_r2 := pc_X6_size h_r2
    dsimp only at p_r2
    have q2 : r2.toInt = N := by rw [p_r2]; exact hx.2.1
    rcases m_ifE hf with ⟨c2, hf⟩ | ⟨c2, hf⟩
    · skip
      replace c2 := ti_leP (a := x1) (b := r2) c2 rfl rfl
      obtain ⟨-, hf⟩ := m_chkE hf
      replace hf := m_calY hf p0
      obtain ⟨-, hf⟩ := m_chkE hf
      obtain ⟨⟨r4, S4c⟩, h_r4, hf⟩ := m_calE hf
      dsimp only at hf
      have g4 := zt_k2 hC hx (by omega) h_r4
      obtain ⟨-, hf⟩ := m_chkE hf
      cases hf
      try dsimp only
      exact Or.inl ⟨by omega, rfl, g4⟩
    · skip
      replace c2 := ti_leN (a := x1) (b := r2) c2 rfl rfl
      exact Or.inr ⟨by omega, no hf⟩
end CUS
section CUR
variable {I : Nat → Int32} {A : Nat → Nat → Int32} {ch : Int → Int} {N : Int} {o : Int32 × MS} {x1 : Int32}
/-- the reference's cut -/
theorem v_cut (hc : txR I A = ch) (hn : (I 1).toInt = N) (hf : f_cut x1 I A = some o) : ((0 ≤ x1.toInt ∧ x1.toInt ≤ N) ∧ o.1.toInt = 1 ∧ txR o.2.1 o.2.2 = cuF ch x1.toInt ∧ (o.2.1 1).toInt = x1.toInt) ∨ (¬ (0 ≤ x1.toInt ∧ x1.toInt ≤ N) ∧ o.1.toInt = 0 ∧ txR o.2.1 o.2.2 = ch ∧ (o.2.1 1).toInt = N) := by
  have hf : f_cut_0 x1 I A = some o := hf
  unfold f_cut_0 at hf
  obtain ⟨I1, e1, hf⟩ := m_bndE hf
  have j1 : I1 1 = I 1 := by rw [e1, upd_ne (by decide)]
  have c1 : txR I1 A = ch := by rw [← hc]; funext i; unfold txR; rw [j1]
  have no : f_cut_17 I1 A = some o → o.1.toInt = 0 ∧ txR o.2.1 o.2.2 = ch ∧ (o.2.1 1).toInt = N := fun hf => by
    unfold f_cut_17 at hf
    obtain ⟨-, hf⟩ := m_chkE hf
    cases hf
    exact ⟨rfl, c1, by rw [← hn, ← j1]⟩
  rcases m_ifE hf with ⟨c, hf⟩ | ⟨c, hf⟩
  · replace c := ti_ltP (a := x1) (b := (0 : Int32)) c rfl (show (0 : Int32).toInt = 0 from rfl)
    exact Or.inr ⟨by omega, no hf⟩
  · replace c := ti_ltN (a := x1) (b := (0 : Int32)) c rfl (show (0 : Int32).toInt = 0 from rfl)
    rcases m_ifE hf with ⟨d, hf⟩ | ⟨d, hf⟩
    · replace d := ti_leP (a := x1) (b := I1 1) d rfl rfl
      rw [j1] at d
      obtain ⟨I2, e2, hf⟩ := m_bndE hf
      obtain ⟨-, hf⟩ := m_chkE hf
      cases hf
      have j2 : I2 1 = x1 := by rw [e2, upd_self]
      refine Or.inl ⟨by omega, rfl, funext (fun i => ?_), by show (I2 1).toInt = _; rw [j2]⟩
      show txR I2 A i = _
      rw [← hc]
      unfold cuF txR
      rw [j2]
      by_cases e : i < x1.toInt
      · rw [if_pos e]
        by_cases e0 : 0 ≤ i
        · rw [if_pos ⟨e0, e⟩, if_pos ⟨e0, by omega⟩]
        · rw [if_neg (by omega), if_neg (by omega)]
      · rw [if_neg e, if_neg (by omega)]
    · replace d := ti_leN (a := x1) (b := I1 1) d rfl rfl
      rw [j1] at d
      exact Or.inr ⟨by omega, no hf⟩
end CUR
end
section
section SAC
variable {S S' : ZS} {g g' : Nat} {ch : Int → Int} {N : Int} {x1 : Int32}
theorem nd_or (hC : CG S) (hg : g = 35 ∨ g = 99) : nd S g x1 = g + 3 ∨ ∃ i, zB S (g + 5) i = some (nd S g x1) := by
  obtain ⟨⟨-, -, p1, p2, -⟩, -⟩ := fx_g hC.2.2.1 hg
  unfold nd
  rw [p1, p2]
  by_cases c : x1 ≤ 0 ∨ zI S 3 g < x1
  · rw [if_pos c]; exact Or.inl rfl
  · rw [if_neg c]
    show (zB S (g + 5) x1.toNatClampNeg).getD (g + 3) = g + 3 ∨ ∃ i, zB S (g + 5) i = some ((zB S (g + 5) x1.toNatClampNeg).getD (g + 3))
    cases h : zB S (g + 5) x1.toNatClampNeg with
    | none => exact Or.inl rfl
    | some c => exact Or.inr ⟨_, h⟩
theorem nd_fx (hC : CG S) (hg : g = 35 ∨ g = 99) : zK S (nd S g x1) = 4 ∧ zP S 6 (nd S g x1) = some (nd S g x1 + 1) ∧ zK S (nd S g x1 + 1) = 6 ∧ (nd S g x1 = g + 3 ∨ 109 ≤ nd S g x1) := by
  obtain ⟨-, ⟨-, -, k3, k4, -⟩, -, p6⟩ := fx_g hC.2.2.1 hg
  rcases nd_or (x1 := x1) hC hg with e | ⟨i, e⟩
  · rw [e]; exact ⟨k3, p6, k4, Or.inl rfl⟩
  · obtain ⟨a1, a2, a3, a4⟩ := (gm_of hC hg).1 i _ e
    exact ⟨a2, a3, a4, Or.inr a1⟩
/-- the class's say -/
theorem p_say {o : (Nat × Int32) × ZS} (hC : CG S) (hg : g' = 35 ∨ g' = 99) (p7 : zP S 7 1 = some g') (hx : TXc S ch N) (hf : d_X11_say 1 S = some o) : (SYo ch N ∧ o.1.1 = 0 ∧ o.1.2.toInt = N ∧ CG o.2 ∧ TXc o.2 (fun _ => 0) 0 ∧ FR (fun a => a = 2 ∨ a = nd S g' (zI S 8 1) + 1) S o.2 ∧ ∃ w, RWL o.2 (nd S g' (zI S 8 1) + 1) w ∧ (w.length : Int) = N ∧ ∀ i, wA w i = ch i) ∨ (¬ SYo ch N ∧ o.1.1 = 1 ∧ o.2 = zsQ S) := by
  have hf : d_X11_say_0 1 S = some o := hf
  have p0 : zP S 0 1 = some 2 := fx_p hC.2.2.1 (by decide)
  have k2 : zK S 2 = 6 := fx_k hC.2.2.1 (by decide) (by decide)
  obtain ⟨w, hw, hl, hcw⟩ := tx_l hC hx
  obtain ⟨hc, hN, hn, hcb⟩ := id hx
  obtain ⟨kc, pc, kc1, cc⟩ := nd_fx (x1 := zI S 8 1) hC hg
  obtain ⟨⟨kg, -⟩, -⟩ := fx_g hC.2.2.1 hg
  have no : ¬ SYo ch N → d_X11_say_43 S = some o → (SYo ch N ∧ o.1.1 = 0 ∧ o.1.2.toInt = N ∧ CG o.2 ∧ TXc o.2 (fun _ => 0) 0 ∧ FR (fun a => a = 2 ∨ a = nd S g' (zI S 8 1) + 1) S o.2 ∧ ∃ w, RWL o.2 (nd S g' (zI S 8 1) + 1) w ∧ (w.length : Int) = N ∧ ∀ i, wA w i = ch i) ∨ (¬ SYo ch N ∧ o.1.1 = 1 ∧ o.2 = zsQ S) := fun hno hf => by
    unfold d_X11_say_43 at hf
    cases hf
    exact Or.inr ⟨hno, rfl, rfl⟩
  unfold d_X11_say_0 at hf
  obtain ⟨-, hf⟩ := m_chkE hf
  replace hf := m_calY hf p0
  obtain ⟨-, hf⟩ := m_chkE hf
  obtain ⟨r2, h_r2, hf⟩ := m_calR hf (fun _ h => ro_X6_size h)
  dsimp only at hf
  have q2 : r2.toInt = N := by
    have h2 : f_X6_size_0 2 S = some (r2, S) := h_r2
    unfold f_X6_size_0 at h2
    obtain ⟨-, h2⟩ := m_chkE h2
    have := congrArg Prod.fst (Option.some.inj h2)
    dsimp only at this
    rw [← this]; exact hN
  obtain ⟨-, hf⟩ := m_chkE hf
  rcases m_ifE hf with ⟨c1, hf⟩ | ⟨c1, hf⟩
  · replace c1 := ti_ltP (a := (200 : Int32)) (b := r2) c1 (show (200 : Int32).toInt = 200 from rfl) rfl
    exact no (fun h => by have := h.1; omega) hf
  · replace c1 := ti_ltN (a := (200 : Int32)) (b := r2) c1 (show (200 : Int32).toInt = 200 from rfl) rfl
    obtain ⟨-, hf⟩ := m_chkE hf
    replace hf := m_calY hf p0
    obtain ⟨-, hf⟩ := m_chkE hf
    obtain ⟨⟨r4, S4⟩, h_r4, hf⟩ := m_calE hf
    dsimp only at hf
    obtain ⟨e4, x4⟩ := p_ixOf (x1 := 125) (x2 := 0) (by rw [hN]; omega) (by decide) h_r4
    dsimp only at e4 x4
    rw [hc, hN, show (125 : Int32).toInt = 125 from rfl, show (0 : Int32).toInt = 0 from rfl] at x4
    rw [e4] at hf
    obtain ⟨-, hf⟩ := m_chkE hf
    rcases m_ifE hf with ⟨c2, hf⟩ | ⟨c2, hf⟩
    · replace c2 := ti_ltP (a := r4) (b := r2) c2 rfl rfl
      refine no (fun h => ?_) hf
      have := (h.2 r4.toInt x4.1 (by omega)).1
      rcases x4.2.2.1 with y | y
      · omega
      · exact this y
    · replace c2 := ti_ltN (a := r4) (b := r2) c2 rfl rfl
      obtain ⟨-, hf⟩ := m_chkE hf
      replace hf := m_calY hf p0
      obtain ⟨-, hf⟩ := m_chkE hf
      obtain ⟨⟨r6, S6⟩, h_r6, hf⟩ := m_calE hf
      dsimp only at hf
      obtain ⟨e6, x6⟩ := p_ixOf (x1 := 10) (x2 := 0) (by rw [hN]; omega) (by decide) h_r6
      dsimp only at e6 x6
      rw [hc, hN, show (10 : Int32).toInt = 10 from rfl, show (0 : Int32).toInt = 0 from rfl] at x6
      rw [e6] at hf
      obtain ⟨-, hf⟩ := m_chkE hf
      rcases m_ifE hf with ⟨c3, hf⟩ | ⟨c3, hf⟩
      · replace c3 := ti_leP (a := r2) (b := r6) c3 rfl rfl
        have ok : SYo ch N := ⟨by omega, fun i i0 i1 => ⟨x4.2.1 i i0 (by omega), x6.2.1 i i0 (by omega)⟩⟩
        obtain ⟨-, hf⟩ := m_chkE hf
        replace hf := m_calY hf p7
        obtain ⟨-, hf⟩ := m_chkE hf
        obtain ⟨-, hf⟩ := m_chkE hf
        obtain ⟨⟨r8, S8⟩, h_r8, hf⟩ := m_calE hf
        dsimp only at hf
        obtain ⟨e8, -, q8⟩ := ok_of (t_f_X1_at (x1 := zI S 8 1) hC.1 kg) h_r8
        dsimp only at e8 q8
        rw [e8, q8] at hf
        obtain ⟨-, hf⟩ := m_chkE hf
        obtain ⟨-, hf⟩ := m_chkE hf
        replace hf := m_calY hf pc
        obtain ⟨-, hf⟩ := m_chkE hf
        replace hf := m_calY hf p0
        obtain ⟨-, hf⟩ := m_chkE hf
        obtain ⟨⟨r12, S13⟩, h_r12, hf⟩ := m_cal2E hf
        dsimp only at hf
        obtain ⟨v, hv⟩ := rwl_ex hC.1 kc1
        have ncr : rc (nd S g' (zI S 8 1) + 1) ≠ 2 := by
          rcases cc with e | e
          · rw [e]
            rcases hg with ee | ee <;> rw [ee] <;> decide
          · rw [rc_new (by omega)]; decide
        have n2 : (2 : Nat) ≠ nd S g' (zI S 8 1) + 1 := by omega
        obtain ⟨T13, R13, W13⟩ := p_copy200 hC.1 n2 ncr (by omega) (fun i => by rw [hcw i]; have := hcb i; omega) hw kc1 k2 (by rw [hv.1]; omega) h_r12
        dsimp only at T13 R13 W13
        have F13 := fr_r R13 kc1
        have Z13 : TZ S13 := tz_k hC.1 hC.2.1 F13 (fun a _ e => by rw [e, kc1]; exact ⟨by decide, by decide, fun h => absurd h (by decide)⟩)
        have C13 : CG S13 := cg_w hC T13 Z13 F13 (by omega) (by omega) (by omega) (by omega)
        have e2 := fr_e F13 (show zK S 2 < 18 by rw [k2]; decide) n2
        have x13 : TXc S13 ch N := ⟨by rw [eqc_rw e2 k2]; exact hc, by rw [e2.2.2.1]; exact hN, hn, hcb⟩
        have p013 : zP S13 0 1 = some 2 := fx_p C13.2.2.1 (by decide)
        obtain ⟨-, hf⟩ := m_chkE hf
        replace hf := m_calY hf p013
        obtain ⟨-, hf⟩ := m_chkE hf
        obtain ⟨⟨r17, S17⟩, h_r17, hf⟩ := m_calE hf
        dsimp only at hf
        obtain ⟨C17, x17, F17⟩ := zt_k2 C13 x13 (by exact ⟨by decide, hn.1⟩) h_r17
        obtain ⟨-, hf⟩ := m_chkE hf
        cases hf
        have kc13 : zK S13 (nd S g' (zI S 8 1) + 1) = 6 := (fr_k F13 (by rw [kc1]; decide)).trans kc1
        refine Or.inl ⟨ok, rfl, q2, C17, ⟨?_, x17.2.1, by decide, fun _ => ⟨Int.le_refl 0, show (0 : Int) ≤ 127 by decide⟩⟩, fr_t (fr_m F13 (fun a _ e => Or.inr e)) (fr_m F17 (fun a _ e => Or.inl e)), w, eqc_rl (fr_e F17 (by rw [kc13]; decide) (fun e => n2 e.symm)) kc13 W13, hl, hcw⟩
        rw [x17.1]
        funext i
        unfold cuF
        have z : (0 : Int32).toInt = 0 := rfl
        by_cases e : i < (0 : Int32).toInt
        · rw [if_pos e, ← hcw i]; exact wA_out (by omega)
        · rw [if_neg e]
      · replace c3 := ti_leN (a := r2) (b := r6) c3 rfl rfl
        refine no (fun h => ?_) hf
        have := (h.2 r6.toInt x6.1 (by omega)).2
        rcases x6.2.2.1 with y | y
        · omega
        · exact this y
end SAC
section SAR
variable {I : Nat → Int32} {A : Nat → Nat → Int32} {ch : Int → Int} {N : Int} {o : Int32 × MS} {x1 x2 : Int32}
theorem sy_102 : ∀ (n : Nat) (x3 : Int32) (A : Nat → Nat → Int32), f_say_102 n x2 x3 I A = some o → o.1 = I 1 ∧ o.2.1 = upd I 1 0 := by
  intro n
  induction n with
  | zero => intro x3 A hf; cases hf
  | succ n ih =>
    intro x3 A hf
    have hf : f_say_102s (f_say_102 n) x2 x3 I A = some o := hf
    unfold f_say_102s at hf
    rcases m_ifE hf with ⟨c, hf⟩ | ⟨c, hf⟩
    · obtain ⟨-, hf⟩ := m_chkE hf
      obtain ⟨A1, e1, hf⟩ := m_bndE hf
      obtain ⟨I2, e2, hf⟩ := m_bndE hf
      obtain ⟨-, hf⟩ := m_chkE hf
      obtain ⟨v3, e3, hf⟩ := m_bndE hf
      cases hf
      exact ⟨by rw [e3, e1, va_up_self, upd_self], e2⟩
    · obtain ⟨v4, -, hf⟩ := m_bndE hf
      obtain ⟨v5, -, hf⟩ := m_bndE hf
      obtain ⟨-, hf⟩ := m_chkE hf
      obtain ⟨v6, -, hf⟩ := m_bndE hf
      obtain ⟨-, hf⟩ := m_chkE hf
      obtain ⟨A7, -, hf⟩ := m_bndE hf
      obtain ⟨v8, -, hf⟩ := m_bndE hf
      exact ih v8 A7 hf
theorem sy_74 {t0 : Int32} (h0 : t0.toInt = 0 ∨ t0.toInt = 1) (hf : f_say_74 t0 I A = some o) : (t0.toInt = 0 ∧ o.1 = I 1 ∧ (o.2.1 0).toInt = 0 ∧ (o.2.1 1).toInt = 0) ∨ (t0.toInt = 1 ∧ o.1.toInt = 0 ∧ (o.2.1 0).toInt = 1 ∧ o.2.1 1 = I 1) := by
  unfold f_say_74 at hf
  obtain ⟨I1, e1, hf⟩ := m_bndE hf
  have j0 : I1 0 = t0 := by rw [e1, upd_self]
  have j1 : I1 1 = I 1 := by rw [e1, upd_ne (by decide)]
  rcases m_ifE hf with ⟨c, hf⟩ | ⟨c, hf⟩
  · replace c := ti_leP (a := I1 0) (b := (0 : Int32)) c rfl (show (0 : Int32).toInt = 0 from rfl)
    rw [j0] at c
    obtain ⟨v2, -, hf⟩ := m_bndE hf
    obtain ⟨v3, -, hf⟩ := m_bndE hf
    obtain ⟨a1, a2⟩ := sy_102 mFuel 0 A hf
    refine Or.inl ⟨by omega, by rw [a1, j1], ?_, by rw [a2, upd_self]; rfl⟩
    rw [a2, upd_ne (by decide), j0]; omega
  · replace c := ti_leN (a := I1 0) (b := (0 : Int32)) c rfl (show (0 : Int32).toInt = 0 from rfl)
    rw [j0] at c
    cases hf
    exact Or.inr ⟨by omega, rfl, by show (I1 0).toInt = 1; rw [j0]; omega, j1⟩
theorem sy_18 (hc : txR I A = ch) (hn : (I 1).toInt = N) (hN : 0 ≤ N ∧ N ≤ 2000) : ∀ (n : Nat) (x1 x2 : Int32), (x1.toInt = 0 ∨ x1.toInt = 1) → (x1.toInt = 1 ↔ N ≤ 200 ∧ ∀ i, 0 ≤ i → i < x2.toInt → ch i ≠ 125 ∧ ch i ≠ 10) → 0 ≤ x2.toInt → x2.toInt ≤ N → f_say_18 n x1 x2 I A = some o → (SYo ch N ∧ o.1 = I 1 ∧ (o.2.1 0).toInt = 0 ∧ (o.2.1 1).toInt = 0) ∨ (¬ SYo ch N ∧ o.1.toInt = 0 ∧ (o.2.1 0).toInt = 1 ∧ o.2.1 1 = I 1) := by
  intro n
  induction n with
  | zero => intro x1 x2 _ _ _ _ hf; cases hf
  | succ n ih =>
    intro x1 x2 h1 hq h20 h21 hf
    have hf : f_say_18s (f_say_18 n) x1 x2 I A = some o := hf
    unfold f_say_18s at hf
    have go : ∀ t0 : Int32, (t0.toInt = 0 ∨ t0.toInt = 1) → x2.toInt < N → (t0.toInt = 1 ↔ N ≤ 200 ∧ ∀ i, 0 ≤ i → i < x2.toInt + 1 → ch i ≠ 125 ∧ ch i ≠ 10) → f_say_57 (f_say_18 n) x2 t0 I A = some o → (SYo ch N ∧ o.1 = I 1 ∧ (o.2.1 0).toInt = 0 ∧ (o.2.1 1).toInt = 0) ∨ (¬ SYo ch N ∧ o.1.toInt = 0 ∧ (o.2.1 0).toInt = 1 ∧ o.2.1 1 = I 1) := fun t0 ht hlt hqt hf => by
      unfold f_say_57 at hf
      obtain ⟨v1, e1, hf⟩ := m_bndE hf
      have t1 : v1.toInt = x2.toInt + 1 := ti_add e1 rfl (show (1 : Int32).toInt = 1 from rfl) (by omega) (by omega)
      exact ih t0 v1 ht (by rw [t1]; exact hqt) (by omega) (by omega) hf
    rcases m_ifE hf with ⟨c1, hf⟩ | ⟨c1, hf⟩
    · replace c1 := ti_leP (a := I 1) (b := x2) c1 rfl rfl
      have e2 : x2.toInt = N := by omega
      rw [e2] at hq
      rcases m_ifE hf with ⟨c2, hf⟩ | ⟨c2, hf⟩
      · replace c2 := ti_eqP (a := x1) (b := (0 : Int32)) c2 rfl (show (0 : Int32).toInt = 0 from rfl)
        rcases sy_74 (t0 := 1) (Or.inr rfl) hf with ⟨a1, -⟩ | ⟨-, a2⟩
        · exact absurd a1 (by decide)
        · exact Or.inr ⟨fun h => by have := hq.2 h; omega, a2⟩
      · replace c2 := ti_eqN (a := x1) (b := (0 : Int32)) c2 rfl (show (0 : Int32).toInt = 0 from rfl)
        rcases sy_74 (t0 := 0) (Or.inl rfl) hf with ⟨-, a2⟩ | ⟨a1, -⟩
        · exact Or.inl ⟨hq.1 (by omega), a2⟩
        · exact absurd a1 (by decide)
    · replace c1 := ti_leN (a := I 1) (b := x2) c1 rfl rfl
      rcases m_ifE hf with ⟨c2, hf⟩ | ⟨c2, hf⟩
      · replace c2 := ti_eqP (a := x1) (b := (0 : Int32)) c2 rfl (show (0 : Int32).toInt = 0 from rfl)
        unfold f_say_56 at hf
        exact go 0 (Or.inl rfl) (by omega) ⟨fun e => absurd e (by decide), fun e => by
          have := hq.2 ⟨e.1, fun i i0 i1 => e.2 i i0 (by omega)⟩
          omega⟩ hf
      · replace c2 := ti_eqN (a := x1) (b := (0 : Int32)) c2 rfl (show (0 : Int32).toInt = 0 from rfl)
        have hq1 := hq.1 (by omega)
        have tx : ∀ v : Int32, v = A 2 x2.toNatClampNeg → v.toInt = ch x2.toInt := fun v e => by
          rw [e, cl_n (n := x2.toInt.toNat) (by omega), ← hc]
          unfold txR
          rw [if_pos ⟨h20, by omega⟩]
        have bad : (ch x2.toInt = 125 ∨ ch x2.toInt = 10) → f_say_56 (f_say_18 n) x2 I A = some o → (SYo ch N ∧ o.1 = I 1 ∧ (o.2.1 0).toInt = 0 ∧ (o.2.1 1).toInt = 0) ∨ (¬ SYo ch N ∧ o.1.toInt = 0 ∧ (o.2.1 0).toInt = 1 ∧ o.2.1 1 = I 1) := fun hb hf => by
          unfold f_say_56 at hf
          exact go 0 (Or.inl rfl) (by omega) ⟨fun e => absurd e (by decide), fun e => by
            have := e.2 x2.toInt h20 (by omega)
            omega⟩ hf
        obtain ⟨-, hf⟩ := m_chkE hf
        obtain ⟨v1, e1, hf⟩ := m_bndE hf
        have t1 := tx v1 e1
        rcases m_ifE hf with ⟨c3, hf⟩ | ⟨c3, hf⟩
        · replace c3 := ti_eqP (a := v1) (b := (125 : Int32)) c3 rfl (show (125 : Int32).toInt = 125 from rfl)
          exact bad (Or.inl (by omega)) hf
        · replace c3 := ti_eqN (a := v1) (b := (125 : Int32)) c3 rfl (show (125 : Int32).toInt = 125 from rfl)
          obtain ⟨-, hf⟩ := m_chkE hf
          obtain ⟨v2, e2, hf⟩ := m_bndE hf
          have t2 := tx v2 e2
          rcases m_ifE hf with ⟨c4, hf⟩ | ⟨c4, hf⟩
          · replace c4 := ti_eqP (a := v2) (b := (10 : Int32)) c4 rfl (show (10 : Int32).toInt = 10 from rfl)
            exact bad (Or.inr (by omega)) hf
          · replace c4 := ti_eqN (a := v2) (b := (10 : Int32)) c4 rfl (show (10 : Int32).toInt = 10 from rfl)
            exact go 1 (Or.inr rfl) (by omega) ⟨fun _ => ⟨hq1.1, fun i i0 i1 => by
              by_cases e : i = x2.toInt
              · rw [e]; omega
              · exact hq1.2 i i0 (by omega)⟩, fun _ => rfl⟩ hf
/-- the reference's say -/
theorem v_say (hc : txR I A = ch) (hn : (I 1).toInt = N) (hN : 0 ≤ N ∧ N ≤ 2000) (hf : f_say I A = some o) : (SYo ch N ∧ o.1 = I 1 ∧ (o.2.1 0).toInt = 0 ∧ (o.2.1 1).toInt = 0) ∨ (¬ SYo ch N ∧ o.1.toInt = 0 ∧ (o.2.1 0).toInt = 1 ∧ o.2.1 1 = I 1) := by
  have hf : f_say_0 I A = some o := hf
  have z : (0 : Int32).toInt = 0 := rfl
  unfold f_say_0 at hf
  rcases m_ifE hf with ⟨c1, hf⟩ | ⟨c1, hf⟩
  · replace c1 := ti_ltP (a := (200 : Int32)) (b := I 1) c1 (show (200 : Int32).toInt = 200 from rfl) rfl
    unfold f_say_15 at hf
    exact sy_18 hc hn hN mFuel 0 0 (Or.inl rfl) ⟨fun e => absurd e (by decide), fun e => by have := e.1; omega⟩ (by decide) (by omega) hf
  · replace c1 := ti_ltN (a := (200 : Int32)) (b := I 1) c1 (show (200 : Int32).toInt = 200 from rfl) rfl
    unfold f_say_15 at hf
    exact sy_18 hc hn hN mFuel 1 0 (Or.inr rfl) ⟨fun _ => ⟨by omega, fun i i0 i1 => by omega⟩, fun _ => rfl⟩ (by decide) (by omega) hf
end SAR
end
section
theorem and255 (y : Int64) : ∃ r : Nat, r < 256 ∧ y &&& (255 : Int64) = Int64.ofNat r := by
  refine ⟨y.toBitVec.toNat % 256, Nat.mod_lt _ (by decide), ?_⟩
  apply Int64.toBitVec_inj.mp
  apply BitVec.eq_of_toNat_eq
  show (y.toBitVec &&& 255#64).toNat = (BitVec.ofNat 64 (y.toBitVec.toNat % 256)).toNat
  rw [BitVec.toNat_and]
  show y.toBitVec.toNat &&& (2 ^ 8 - 1) = _
  rw [Nat.and_two_pow_sub_one_eq_mod, BitVec.toNat_ofNat]
  exact (Nat.mod_eq_of_lt (by omega)).symm
theorem b255 : ∀ i, i < 64 → 8 ≤ i → (255#64).getLsbD i = false := by decide
theorem sh_bv (v : BitVec 64) {s : Nat} (hs : s ≤ 56) : (v.sshiftRight s) &&& 255#64 = (v >>> s) &&& 255#64 := by
  apply BitVec.eq_of_getLsbD_eq
  intro i hi
  rw [BitVec.getLsbD_and, BitVec.getLsbD_and, BitVec.getLsbD_sshiftRight, BitVec.getLsbD_ushiftRight]
  by_cases h8 : i < 8
  · have h1 : s + i < 64 := by omega
    have h2 : ¬ 64 ≤ i := by omega
    simp [h1, h2]
  · rw [b255 i hi (by omega), Bool.and_false, Bool.and_false]
/-- the byte at a place, as the reference takes it -/
noncomputable def tyR (x : Int64) (x4 : Int32) : Int64 := (x >>> (((8 : Int32) * x4).toInt64 &&& 63)) &&& (255 : Int64)
noncomputable def tyB (x : Int64) (x4 : Int32) : Int32 := (((tyR x x4).toInt32).toUInt32 % 65536).toInt32
theorem ch_al2 : ∀ r : Nat, r < 256 → vp_nar .char ((((Int64.ofNat r).toInt32).toUInt32 % 65536).toInt32) = (((Int64.ofNat r).toInt32).toUInt32 % 65536).toInt32 ∧ ((((Int64.ofNat r).toInt32).toUInt32 % 65536).toInt32).toInt = (r : Int) ∧ (lg_cmp (Int64.ofNat r) 10 = 0 ↔ r = 10) ∧ (lg_cmp (Int64.ofNat r) 32 < 0 ↔ r < 32) ∧ (lg_cmp (Int64.ofNat r) 126 ≤ 0 ↔ r ≤ 126) := by decide +kernel
section TYB
variable {x : Int64} {x4 : Int32} {S : ZS}
theorem ty_b : vp_nar .char (tyB x x4) = tyB x x4 ∧ (0 ≤ (tyB x x4).toInt ∧ (tyB x x4).toInt ≤ 255) ∧ (lg_cmp (tyR x x4) 10 = 0 ↔ (tyB x x4).toInt = 10) ∧ (lg_cmp (tyR x x4) 32 < 0 ↔ (tyB x x4).toInt < 32) ∧ (lg_cmp (tyR x x4) 126 ≤ 0 ↔ (tyB x x4).toInt ≤ 126) := by
  obtain ⟨r, hr, er⟩ := and255 (x >>> (((8 : Int32) * x4).toInt64 &&& 63))
  have er : tyR x x4 = Int64.ofNat r := er
  obtain ⟨a1, a2, a3, a4, a5⟩ := ch_al2 r hr
  unfold tyB
  rw [er, a2]
  refine ⟨a1, ⟨by omega, by omega⟩, a3.trans ⟨fun h => by omega, fun h => by omega⟩, a4.trans ⟨fun h => by omega, fun h => by omega⟩, a5.trans ⟨fun h => by omega, fun h => by omega⟩⟩
theorem i32_8 (h : 0 ≤ x4.toInt ∧ x4.toInt ≤ 7) : x4 = 0 ∨ x4 = 1 ∨ x4 = 2 ∨ x4 = 3 ∨ x4 = 4 ∨ x4 = 5 ∨ x4 = 6 ∨ x4 = 7 := by
  by_cases h6 : x4.toInt ≤ 6
  · rcases i32_7 ⟨h.1, h6⟩ with e | e | e | e | e | e | e
    · exact Or.inl e
    · exact Or.inr (Or.inl e)
    · exact Or.inr (Or.inr (Or.inl e))
    · exact Or.inr (Or.inr (Or.inr (Or.inl e)))
    · exact Or.inr (Or.inr (Or.inr (Or.inr (Or.inl e))))
    · exact Or.inr (Or.inr (Or.inr (Or.inr (Or.inr (Or.inl e)))))
    · exact Or.inr (Or.inr (Or.inr (Or.inr (Or.inr (Or.inr (Or.inl e))))))
  · exact Or.inr (Or.inr (Or.inr (Or.inr (Or.inr (Or.inr (Or.inr (i32_of (show x4.toInt = 7 by omega))))))))
theorem ty_sh (h : 0 ≤ x4.toInt ∧ x4.toInt ≤ 7) : tyR x x4 = ((x.toUInt64 >>> (((8 : Int32) * x4).toInt64.toUInt64 &&& Int64.toUInt64 63)).toInt64) &&& (255 : Int64) := by
  apply Int64.toBitVec_inj.mp
  rcases i32_8 h with e | e | e | e | e | e | e | e <;> subst e
  · exact sh_bv x.toBitVec (s := 0) (by omega)
  · exact sh_bv x.toBitVec (s := 8) (by omega)
  · exact sh_bv x.toBitVec (s := 16) (by omega)
  · exact sh_bv x.toBitVec (s := 24) (by omega)
  · exact sh_bv x.toBitVec (s := 32) (by omega)
  · exact sh_bv x.toBitVec (s := 40) (by omega)
  · exact sh_bv x.toBitVec (s := 48) (by omega)
  · exact sh_bv x.toBitVec (s := 56) (by omega)
/-- the class's byte is the same -/
theorem p_byteOf {o : Int32 × ZS} (h : 0 ≤ x4.toInt ∧ x4.toInt ≤ 7) (hf : f_X11_byteOf x x4 S = some o) : o = (tyB x x4, S) := by
  have hf : f_X11_byteOf_0 x x4 S = some o := hf
  unfold f_X11_byteOf_0 at hf
  obtain ⟨v1, e1, hf⟩ := m_bndE hf
  obtain ⟨v2, e2, hf⟩ := m_bndE hf
  obtain ⟨v3, e3, hf⟩ := m_bndE hf
  obtain ⟨v4, e4, hf⟩ := m_bndE hf
  obtain ⟨v5, e5, hf⟩ := m_bndE hf
  obtain ⟨-, hf⟩ := m_chkE hf
  have q : v5 = tyB x x4 := by
    unfold tyB
    rw [ty_sh h, e5, e4, e3, e2, e1]
  rw [q] at hf
  exact (Option.some.inj hf).symm
end TYB
end
section
noncomputable def bys (x : Int64) : Nat → List Int
  | 0 => []
  | k + 1 => bys x k ++ [(tyB x (Int32.ofInt (k : Int))).toInt]
theorem bys_l {x : Int64} : ∀ k, (bys x k).length = k
  | 0 => rfl
  | k + 1 => by
    show (bys x k ++ [_]).length = k + 1
    rw [List.length_append, bys_l k]; rfl
/-- a byte that may stand in a text -/
noncomputable def GBy (x : Int64) (y : Int32) : Prop := (tyB x y).toInt = 10 ∨ (32 ≤ (tyB x y).toInt ∧ (tyB x y).toInt ≤ 126)
noncomputable def GBs (x : Int64) (n : Int) : Prop := ∀ y : Int32, 0 ≤ y.toInt → y.toInt < n → GBy x y
/-- type may: N signs stand, n come -/
noncomputable def TYo (x : Int64) (n N : Int) : Prop := (1 ≤ n ∧ n ≤ 8) ∧ N + n ≤ 2000 ∧ GBs x n
section TYC
variable {S0 S : ZS} {x : Int64} {x3 : Int32} {w : List Int} {L : Nat} {o : Int32 × ZS}
theorem tc_77 (h3 : x3.toInt = (L : Int)) (hL : L ≤ 8) (hw : w.length + L ≤ 2000) : ∀ (n : Nat) (x4 : Int32) (k : Nat) (S : ZS), x4.toInt = (k : Int) → k ≤ L → CG S → RWL S 2 (w ++ bys x k) → FR (fun a => a = 2) S0 S → d_X11_type_77 n 1 x x3 x4 S = some o → o.1.toInt = 1 ∧ CG o.2 ∧ RWL o.2 2 (w ++ bys x L) ∧ FR (fun a => a = 2) S0 o.2 := by
  intro n
  induction n with
  | zero => intro x4 k S _ _ _ _ _ hf; cases hf
  | succ n ih =>
    intro x4 k S h4 hk hC hr hF hf
    have hf : d_X11_type_77s (d_X11_type_77 n) 1 x x3 x4 S = some o := hf
    have ll : (w ++ bys x k).length = w.length + k := by rw [List.length_append, bys_l]
    unfold d_X11_type_77s at hf
    rcases m_ifE hf with ⟨c1, hf⟩ | ⟨c1, hf⟩
    · replace c1 := ti_leP (a := x3) (b := x4) c1 rfl rfl
      obtain ⟨-, hf⟩ := m_chkE hf
      cases hf
      have e : k = L := by omega
      rw [e] at hr
      exact ⟨rfl, hC, hr, hF⟩
    · replace c1 := ti_leN (a := x3) (b := x4) c1 rfl rfl
      have p0 : zP S 0 1 = some 2 := fx_p hC.2.2.1 (by decide)
      have k2 : zK S 2 = 6 := fx_k hC.2.2.1 (by decide) (by decide)
      obtain ⟨-, hf⟩ := m_chkE hf
      replace hf := m_calY hf p0
      obtain ⟨⟨r2, S2⟩, h_r2, hf⟩ := m_calE hf
      dsimp only at hf
      have q := p_byteOf (by omega) h_r2
      have q1 : r2 = tyB x x4 := congrArg Prod.fst q
      have q2 : S2 = S := congrArg Prod.snd q
      rw [q1, q2] at hf
      obtain ⟨-, hb, -⟩ := ty_b (x := x) (x4 := x4)
      obtain ⟨-, hf⟩ := m_chkE hf
      obtain ⟨-, hf⟩ := m_chkE hf
      obtain ⟨⟨r4, S5⟩, h_r4, hf⟩ := m_cal2E hf
      dsimp only at hf
      have rl : rL 2 = 2000 := by decide
      have T5 : ZT S5 := (ok_of (p_d_X6_put (SZ := S) (x0 := 2) (x1 := tyB x x4) hC.1 (rpc_of (rp_0 S)) k2 (by omega) (by rw [hr.1, ll, rl]; omega)) h_r4).1
      obtain ⟨g1, g2⟩ := p_rput hC.1 k2 hr (by rw [ll]; omega) (by omega) h_r4
      have F5 := fr_r g2 k2
      have Z5 : TZ S5 := tz_k hC.1 hC.2.1 F5 (fun a _ e => by rw [e, k2]; exact ⟨by decide, by decide, fun h => absurd h (by decide)⟩)
      have C5 : CG S5 := cg_w hC T5 Z5 F5 (by decide) (by decide) (by decide) (by decide)
      obtain ⟨v8, e8, hf⟩ := m_bndE hf
      have t8 : v8.toInt = x4.toInt + 1 := ti_add e8 rfl (show (1 : Int32).toInt = 1 from rfl) (by omega) (by omega)
      refine ih v8 (k + 1) S5 (by omega) (by omega) C5 ?_ (fr_t hF F5) hf
      have ex : x4 = Int32.ofInt (k : Int) := i32_of h4
      rw [ex, List.append_assoc] at g1
      exact g1
theorem tc_31 (h3 : x3.toInt = (L : Int)) (hL : L ≤ 8) : ∀ (n : Nat) (x4 : Int32), 0 ≤ x4.toInt → x4.toInt ≤ (L : Int) → GBs x x4.toInt → d_X11_type_31 n 1 x x3 x4 S = some o → (GBs x (L : Int) ∧ d_X11_type_77 mFuel 1 x x3 0 S = some o) ∨ (¬ GBs x (L : Int) ∧ o.1.toInt = 0 ∧ o.2 = S) := by
  intro n
  induction n with
  | zero => intro x4 _ _ _ hf; cases hf
  | succ n ih =>
    intro x4 h40 h41 hs hf
    have hf : d_X11_type_31s (d_X11_type_31 n) 1 x x3 x4 S = some o := hf
    unfold d_X11_type_31s at hf
    rcases m_ifE hf with ⟨c1, hf⟩ | ⟨c1, hf⟩
    · replace c1 := ti_leP (a := x3) (b := x4) c1 rfl rfl
      rw [show x4.toInt = (L : Int) by omega] at hs
      exact Or.inl ⟨hs, hf⟩
    · replace c1 := ti_leN (a := x3) (b := x4) c1 rfl rfl
      obtain ⟨⟨r1, S1⟩, h_r1, hf⟩ := m_calE hf
      dsimp only at hf
      have q := p_byteOf (by omega) h_r1
      have q1 : r1 = tyB x x4 := congrArg Prod.fst q
      have q2 : S1 = S := congrArg Prod.snd q
      rw [q1, q2] at hf
      obtain ⟨-, hf⟩ := m_chkE hf
      have go : GBy x x4 → d_X11_type_68 (d_X11_type_31 n) 1 x x3 x4 S = some o → (GBs x (L : Int) ∧ d_X11_type_77 mFuel 1 x x3 0 S = some o) ∨ (¬ GBs x (L : Int) ∧ o.1.toInt = 0 ∧ o.2 = S) := fun hg hf => by
        unfold d_X11_type_68 at hf
        obtain ⟨v1, e1, hf⟩ := m_bndE hf
        have t1 : v1.toInt = x4.toInt + 1 := ti_add e1 rfl (show (1 : Int32).toInt = 1 from rfl) (by omega) (by omega)
        refine ih v1 (by omega) (by omega) (fun y y0 y1 => ?_) hf
        by_cases e : y.toInt = x4.toInt
        · have ey : y = x4 := (i32_of e).trans (i32_of rfl).symm
          rw [ey]; exact hg
        · exact hs y y0 (by omega)
      have no : ¬ GBy x x4 → d_X11_type_66 S = some o → (GBs x (L : Int) ∧ d_X11_type_77 mFuel 1 x x3 0 S = some o) ∨ (¬ GBs x (L : Int) ∧ o.1.toInt = 0 ∧ o.2 = S) := fun hg hf => by
        unfold d_X11_type_66 at hf
        obtain ⟨-, hf⟩ := m_chkE hf
        cases hf
        exact Or.inr ⟨fun h => hg (h x4 h40 (by omega)), rfl, rfl⟩
      rcases m_ifE hf with ⟨c2, hf⟩ | ⟨c2, hf⟩
      · replace c2 := ti_eqP (a := tyB x x4) (b := (10 : Int32)) c2 rfl (show (10 : Int32).toInt = 10 from rfl)
        exact go (Or.inl c2) hf
      · replace c2 := ti_eqN (a := tyB x x4) (b := (10 : Int32)) c2 rfl (show (10 : Int32).toInt = 10 from rfl)
        rcases m_ifE hf with ⟨c3, hf⟩ | ⟨c3, hf⟩
        · replace c3 := ti_ltP (a := tyB x x4) (b := (32 : Int32)) c3 rfl (show (32 : Int32).toInt = 32 from rfl)
          exact no (fun h => by unfold GBy at h; omega) hf
        · replace c3 := ti_ltN (a := tyB x x4) (b := (32 : Int32)) c3 rfl (show (32 : Int32).toInt = 32 from rfl)
          rcases m_ifE hf with ⟨c4, hf⟩ | ⟨c4, hf⟩
          · replace c4 := ti_leP (a := tyB x x4) (b := (126 : Int32)) c4 rfl (show (126 : Int32).toInt = 126 from rfl)
            exact go (Or.inr ⟨by omega, by omega⟩) hf
          · replace c4 := ti_leN (a := tyB x x4) (b := (126 : Int32)) c4 rfl (show (126 : Int32).toInt = 126 from rfl)
            exact no (fun h => by unfold GBy at h; omega) hf
/-- the class's type -/
theorem p_type (hC : CG S) (hr : RWL S 2 w) (hf : d_X11_type 1 x x3 S = some o) : (TYo x x3.toInt (w.length : Int) ∧ o.1.toInt = 1 ∧ CG o.2 ∧ RWL o.2 2 (w ++ bys x x3.toInt.toNat) ∧ FR (fun a => a = 2) S o.2) ∨ (¬ TYo x x3.toInt (w.length : Int) ∧ o.1.toInt = 0 ∧ o.2 = S) := by
  have hf : d_X11_type_0 1 x x3 S = some o := hf
  have p0 : zP S 0 1 = some 2 := fx_p hC.2.2.1 (by decide)
  have k2 : zK S 2 = 6 := fx_k hC.2.2.1 (by decide) (by decide)
  have bd := (J_6_1 hC.1 k2)
  have rl : rL 2 = 2000 := by decide
  have no : ¬ TYo x x3.toInt (w.length : Int) → d_X11_type_26 S = some o → (TYo x x3.toInt (w.length : Int) ∧ o.1.toInt = 1 ∧ CG o.2 ∧ RWL o.2 2 (w ++ bys x x3.toInt.toNat) ∧ FR (fun a => a = 2) S o.2) ∨ (¬ TYo x x3.toInt (w.length : Int) ∧ o.1.toInt = 0 ∧ o.2 = S) := fun hn hf => by
    unfold d_X11_type_26 at hf
    obtain ⟨-, hf⟩ := m_chkE hf
    cases hf
    exact Or.inr ⟨hn, rfl, rfl⟩
  unfold d_X11_type_0 at hf
  rcases m_ifE hf with ⟨c1, hf⟩ | ⟨c1, hf⟩
  · replace c1 := ti_ltP (a := x3) (b := (1 : Int32)) c1 rfl (show (1 : Int32).toInt = 1 from rfl)
    exact no (fun h => by have := h.1; omega) hf
  · replace c1 := ti_ltN (a := x3) (b := (1 : Int32)) c1 rfl (show (1 : Int32).toInt = 1 from rfl)
    rcases m_ifE hf with ⟨c2, hf⟩ | ⟨c2, hf⟩
    · replace c2 := ti_ltP (a := (8 : Int32)) (b := x3) c2 (show (8 : Int32).toInt = 8 from rfl) rfl
      exact no (fun h => by have := h.1; omega) hf
    · replace c2 := ti_ltN (a := (8 : Int32)) (b := x3) c2 (show (8 : Int32).toInt = 8 from rfl) rfl
      obtain ⟨-, hf⟩ := m_chkE hf
      replace hf := m_calY hf p0
      obtain ⟨-, hf⟩ := m_chkE hf
      obtain ⟨r2, h_r2, hf⟩ := m_calR hf (fun _ h => ro_X6_size h)
      dsimp only at hf
      have q2 : r2.toInt = (w.length : Int) := by
        have h2 : f_X6_size_0 2 S = some (r2, S) := h_r2
        unfold f_X6_size_0 at h2
        obtain ⟨-, h2⟩ := m_chkE h2
        have := congrArg Prod.fst (Option.some.inj h2)
        dsimp only at this
        rw [← this]; exact hr.1
      obtain ⟨-, hf⟩ := m_chkE hf
      obtain ⟨v3, e3, hf⟩ := m_bndE hf
      have wl : (w.length : Int) ≤ 100000 := by rw [← hr.1]; omega
      have t3 : v3.toInt = r2.toInt + x3.toInt := ti_add e3 rfl rfl (by omega) (by omega)
      rcases m_ifE hf with ⟨c3, hf⟩ | ⟨c3, hf⟩
      · replace c3 := ti_leP (a := v3) (b := (2000 : Int32)) c3 rfl (show (2000 : Int32).toInt = 2000 from rfl)
        have h3 : x3.toInt = ((x3.toInt.toNat : Nat) : Int) := by omega
        rcases tc_31 h3 (by omega) mFuel 0 (by decide) (show (0 : Int) ≤ _ by omega) (fun y y0 y1 => by have z : (0 : Int32).toInt = 0 := rfl; omega) hf with ⟨a1, a2⟩ | ⟨a1, a2⟩
        · obtain ⟨b1, b2, b3, b4⟩ := tc_77 (S0 := S) (w := w) h3 (by omega) (by omega) mFuel 0 0 S rfl (Nat.zero_le _) hC (by rw [show bys x 0 = [] from rfl, List.append_nil]; exact hr) fr_0 a2
          exact Or.inl ⟨⟨⟨by omega, by omega⟩, by omega, by rw [h3]; exact a1⟩, b1, b2, b3, b4⟩
        · exact Or.inr ⟨fun h => a1 (by rw [← h3]; exact h.2.2), a2⟩
      · replace c3 := ti_leN (a := v3) (b := (2000 : Int32)) c3 rfl (show (2000 : Int32).toInt = 2000 from rfl)
        exact no (fun h => by have := h.2.1; omega) hf
end TYC
end
section
/-- the reference's text as a list -/
noncomputable def TXl (I : Nat → Int32) (A : Nat → Nat → Int32) (w : List Int) : Prop := (I 1).toInt = (w.length : Int) ∧ ∀ i, txR I A i = wA w i
section TYR
variable {I : Nat → Int32} {A : Nat → Nat → Int32} {x : Int64} {x3 : Int32} {w : List Int} {L : Nat} {o : Int32 × MS}
theorem txl_a {I' : Nat → Int32} {A' : Nat → Nat → Int32} {v c : Int32} (h : TXl I A w) (eA : A' = va_up A 2 (upd (A 2) (I 1).toNatClampNeg c)) (eI : I' = upd I 1 v) (hv : v.toInt = (w.length : Int) + 1) : TXl I' A' (w ++ [c.toInt]) := by
  have j1 : I' 1 = v := by rw [eI, upd_self]
  have cl : (I 1).toNatClampNeg = w.length := cl_n h.1
  refine ⟨by rw [j1, hv, List.length_append]; rfl, fun i => ?_⟩
  rw [wA_app, ← h.2 i]
  unfold txR
  rw [j1, hv, h.1, eA, va_up_self, cl]
  by_cases e : i = (w.length : Int)
  · rw [if_pos e, if_pos (by omega), e, Int.toNat_natCast, upd_self]
  · rw [if_neg e]
    by_cases e2 : 0 ≤ i ∧ i < (w.length : Int)
    · rw [if_pos (by omega), if_pos e2, upd_ne (by omega)]
    · rw [if_neg (by omega), if_neg e2]
theorem tr_90 (h3 : x3.toInt = (L : Int)) (hL : L ≤ 8) (hw : w.length + L ≤ 2000) : ∀ (n : Nat) (x4 : Int32) (k : Nat) (I : Nat → Int32) (A : Nat → Nat → Int32), x4.toInt = (k : Int) → k ≤ L → TXl I A (w ++ bys x k) → f_type_90 n x x3 x4 I A = some o → o.1.toInt = 1 ∧ TXl o.2.1 o.2.2 (w ++ bys x L) := by
  intro n
  induction n with
  | zero => intro x4 k I A _ _ _ hf; cases hf
  | succ n ih =>
    intro x4 k I A h4 hk ht hf
    have hf : f_type_90s (f_type_90 n) x x3 x4 I A = some o := hf
    have ll : (w ++ bys x k).length = w.length + k := by rw [List.length_append, bys_l]
    have i1 := ht.1
    rw [ll] at i1
    unfold f_type_90s at hf
    rcases m_ifE hf with ⟨c1, hf⟩ | ⟨c1, hf⟩
    · replace c1 := ti_leP (a := x3) (b := x4) c1 rfl rfl
      obtain ⟨-, hf⟩ := m_chkE hf
      cases hf
      have e : k = L := by omega
      rw [e] at ht
      exact ⟨rfl, ht⟩
    · replace c1 := ti_leN (a := x3) (b := x4) c1 rfl rfl
      obtain ⟨v1, e1, hf⟩ := m_bndE hf
      obtain ⟨v2, e2, hf⟩ := m_bndE hf
      obtain ⟨v3, e3, hf⟩ := m_bndE hf
      obtain ⟨v4, e4, hf⟩ := m_bndE hf
      obtain ⟨v5, e5, hf⟩ := m_bndE hf
      have q5 : v5 = tyB x x4 := by
        unfold tyB tyR
        rw [e5, e4, e3, e2, e1]
      obtain ⟨-, hf⟩ := m_chkE hf
      obtain ⟨A6, e6, hf⟩ := m_bndE hf
      rw [q5, ty_b.1] at e6
      obtain ⟨v7, e7, hf⟩ := m_bndE hf
      have t7 : v7.toInt = (I 1).toInt + 1 := ti_add e7 rfl (show (1 : Int32).toInt = 1 from rfl) (by omega) (by omega)
      obtain ⟨I8, e8, hf⟩ := m_bndE hf
      obtain ⟨v9, e9, hf⟩ := m_bndE hf
      have t9 : v9.toInt = x4.toInt + 1 := ti_add e9 rfl (show (1 : Int32).toInt = 1 from rfl) (by omega) (by omega)
      have g := txl_a ht e6 e8 (by rw [ll]; omega)
      refine ih v9 (k + 1) I8 A6 (by omega) (by omega) ?_ hf
      have ex : x4 = Int32.ofInt (k : Int) := i32_of h4
      rw [ex, List.append_assoc] at g
      exact g
theorem tr_33 (h3 : x3.toInt = (L : Int)) (hL : L ≤ 8) : ∀ (n : Nat) (x4 : Int32), 0 ≤ x4.toInt → x4.toInt ≤ (L : Int) → GBs x x4.toInt → f_type_33 n x x3 x4 I A = some o → (GBs x (L : Int) ∧ f_type_90 mFuel x x3 0 I A = some o) ∨ (¬ GBs x (L : Int) ∧ o.1.toInt = 0 ∧ o.2 = (I, A)) := by
  intro n
  induction n with
  | zero => intro x4 _ _ _ hf; cases hf
  | succ n ih =>
    intro x4 h40 h41 hs hf
    have hf : f_type_33s (f_type_33 n) x x3 x4 I A = some o := hf
    unfold f_type_33s at hf
    rcases m_ifE hf with ⟨c1, hf⟩ | ⟨c1, hf⟩
    · replace c1 := ti_leP (a := x3) (b := x4) c1 rfl rfl
      rw [show x4.toInt = (L : Int) by omega] at hs
      exact Or.inl ⟨hs, hf⟩
    · replace c1 := ti_leN (a := x3) (b := x4) c1 rfl rfl
      obtain ⟨v1, e1, hf⟩ := m_bndE hf
      obtain ⟨v2, e2, hf⟩ := m_bndE hf
      obtain ⟨v3, e3, hf⟩ := m_bndE hf
      have q3 : v3 = tyR x x4 := by
        unfold tyR
        rw [e3, e2, e1]
      obtain ⟨-, -, b1, b2, b3⟩ := ty_b (x := x) (x4 := x4)
      rw [q3] at hf
      have go : GBy x x4 → f_type_81 (f_type_33 n) x x3 x4 I A = some o → (GBs x (L : Int) ∧ f_type_90 mFuel x x3 0 I A = some o) ∨ (¬ GBs x (L : Int) ∧ o.1.toInt = 0 ∧ o.2 = (I, A)) := fun hg hf => by
        unfold f_type_81 at hf
        obtain ⟨v1, e1, hf⟩ := m_bndE hf
        have t1 : v1.toInt = x4.toInt + 1 := ti_add e1 rfl (show (1 : Int32).toInt = 1 from rfl) (by omega) (by omega)
        refine ih v1 (by omega) (by omega) (fun y y0 y1 => ?_) hf
        by_cases e : y.toInt = x4.toInt
        · have ey : y = x4 := (i32_of e).trans (i32_of rfl).symm
          rw [ey]; exact hg
        · exact hs y y0 (by omega)
      have no : ¬ GBy x x4 → f_type_79 I A = some o → (GBs x (L : Int) ∧ f_type_90 mFuel x x3 0 I A = some o) ∨ (¬ GBs x (L : Int) ∧ o.1.toInt = 0 ∧ o.2 = (I, A)) := fun hg hf => by
        unfold f_type_79 at hf
        obtain ⟨-, hf⟩ := m_chkE hf
        cases hf
        exact Or.inr ⟨fun h => hg (h x4 h40 (by omega)), rfl, rfl⟩
      obtain ⟨v4, e4, hf⟩ := m_bndE hf
      rcases m_ifE hf with ⟨c2, hf⟩ | ⟨c2, hf⟩
      · rw [e4] at c2
        exact go (Or.inl (b1.1 c2)) hf
      · rw [e4] at c2
        have d2 : (tyB x x4).toInt ≠ 10 := fun h => c2 (b1.2 h)
        obtain ⟨v5, e5, hf⟩ := m_bndE hf
        rcases m_ifE hf with ⟨c3, hf⟩ | ⟨c3, hf⟩
        · rw [e5] at c3
          have d3 := b2.1 c3
          exact no (fun h => by unfold GBy at h; omega) hf
        · rw [e5] at c3
          have d3 : ¬ (tyB x x4).toInt < 32 := fun h => c3 (b2.2 h)
          obtain ⟨v6, e6, hf⟩ := m_bndE hf
          rcases m_ifE hf with ⟨c4, hf⟩ | ⟨c4, hf⟩
          · rw [e6] at c4
            have d4 := b3.1 c4
            exact go (Or.inr ⟨by omega, by omega⟩) hf
          · rw [e6] at c4
            have d4 : ¬ (tyB x x4).toInt ≤ 126 := fun h => c4 (b3.2 h)
            exact no (fun h => by unfold GBy at h; omega) hf
/-- the reference's type -/
theorem v_type (ht : TXl I A w) (hw : w.length ≤ 2000) (hf : f_type x x3 I A = some o) : (TYo x x3.toInt (w.length : Int) ∧ o.1.toInt = 1 ∧ TXl o.2.1 o.2.2 (w ++ bys x x3.toInt.toNat)) ∨ (¬ TYo x x3.toInt (w.length : Int) ∧ o.1.toInt = 0 ∧ TXl o.2.1 o.2.2 w) := by
  have hf : f_type_0 x x3 I A = some o := hf
  unfold f_type_0 at hf
  obtain ⟨I1, e1, hf⟩ := m_bndE hf
  have j1 : I1 1 = I 1 := by rw [e1, upd_ne (by decide)]
  have t1 : TXl I1 A w := ⟨by rw [j1]; exact ht.1, fun i => by rw [← ht.2 i]; unfold txR; rw [j1]⟩
  have l1 := t1.1
  have no : ¬ TYo x x3.toInt (w.length : Int) → f_type_28 I1 A = some o → (TYo x x3.toInt (w.length : Int) ∧ o.1.toInt = 1 ∧ TXl o.2.1 o.2.2 (w ++ bys x x3.toInt.toNat)) ∨ (¬ TYo x x3.toInt (w.length : Int) ∧ o.1.toInt = 0 ∧ TXl o.2.1 o.2.2 w) := fun hn hf => by
    unfold f_type_28 at hf
    obtain ⟨-, hf⟩ := m_chkE hf
    cases hf
    exact Or.inr ⟨hn, rfl, t1⟩
  rcases m_ifE hf with ⟨c1, hf⟩ | ⟨c1, hf⟩
  · replace c1 := ti_ltP (a := x3) (b := (1 : Int32)) c1 rfl (show (1 : Int32).toInt = 1 from rfl)
    exact no (fun h => by have := h.1; omega) hf
  · replace c1 := ti_ltN (a := x3) (b := (1 : Int32)) c1 rfl (show (1 : Int32).toInt = 1 from rfl)
    rcases m_ifE hf with ⟨c2, hf⟩ | ⟨c2, hf⟩
    · replace c2 := ti_ltP (a := (8 : Int32)) (b := x3) c2 (show (8 : Int32).toInt = 8 from rfl) rfl
      exact no (fun h => by have := h.1; omega) hf
    · replace c2 := ti_ltN (a := (8 : Int32)) (b := x3) c2 (show (8 : Int32).toInt = 8 from rfl) rfl
      obtain ⟨v2, e2, hf⟩ := m_bndE hf
      have t2 : v2.toInt = (I1 1).toInt + x3.toInt := ti_add e2 rfl rfl (by omega) (by omega)
      rcases m_ifE hf with ⟨c3, hf⟩ | ⟨c3, hf⟩
      · replace c3 := ti_leP (a := v2) (b := (2000 : Int32)) c3 rfl (show (2000 : Int32).toInt = 2000 from rfl)
        have h3 : x3.toInt = ((x3.toInt.toNat : Nat) : Int) := by omega
        rcases tr_33 h3 (by omega) mFuel 0 (by decide) (show (0 : Int) ≤ _ by omega) (fun y y0 y1 => by have z : (0 : Int32).toInt = 0 := rfl; omega) hf with ⟨a1, a2⟩ | ⟨a1, a2, a3⟩
        · obtain ⟨b1, b2⟩ := tr_90 (w := w) h3 (by omega) (by omega) mFuel 0 0 I1 A rfl (Nat.zero_le _) (by rw [show bys x 0 = [] from rfl, List.append_nil]; exact t1) a2
          exact Or.inl ⟨⟨⟨by omega, by omega⟩, by omega, by rw [h3]; exact a1⟩, b1, b2⟩
        · refine Or.inr ⟨fun h => a1 (by rw [← h3]; exact h.2.2), a2, ?_⟩
          rw [a3]; exact t1
      · replace c3 := ti_leN (a := v2) (b := (2000 : Int32)) c3 rfl (show (2000 : Int32).toInt = 2000 from rfl)
        exact no (fun h => by have := h.2.1; omega) hf
end TYR
end
section
/-- a throw changes nothing but the marks of room -/
theorem cg_Q {S : ZS} (h : CG S) (hT : ZT (zsQ S)) : CG (zsQ S) := by
  obtain ⟨-, hZ, hX, h35, h99, hd⟩ := h
  exact ⟨hT, tz_Q hZ, hX, h35, h99, hd⟩
/-- calls that change no references but those of rows keep all -/
theorem cg_z {S S' : ZS} {W V : List (Nat × Nat)} (h : CG S) (hT : ZT S') (hZ : TZ S') (f : FrZ W V [] S S') (hV : ∀ z ∈ V, z.1 = 6) : CG S' := by
  have g := (f h.1.2.2.2.2.1).2.2
  obtain ⟨-, -, hX, h35, h99, hd⟩ := h
  have nv : ∀ a j, zK S a ≠ 6 → (zK S a, j) ∉ V := fun a j hn hm => hn (hV _ hm)
  have l := fun a h1 h2 => fx_l (a := a) hX h1 h2
  have P' : ∀ a j, zK S a < 18 → zK S a ≠ 6 → zP S' j a = zP S j a := fun a j ha hn => (g a ha).2.2.2.1 j (nv a j hn)
  have B' : ∀ a, zK S a < 18 → zB S' a = zB S a := fun a ha => (g a ha).2.2.2.2 (fun hm => by cases hm)
  have b40 := B' 40 (l 40 (by decide) (by decide))
  have b41 := B' 41 (l 41 (by decide) (by decide))
  have b104 := B' 104 (l 104 (by decide) (by decide))
  have b105 := B' 105 (l 105 (by decide) (by decide))
  have gm : ∀ q, GM S q → zB S' (q + 5) = zB S (q + 5) → zB S' (q + 6) = zB S (q + 6) → GM S' q := fun q hm e5 e6 => by
    refine ⟨fun i a ha => ?_, fun i a ha => ?_⟩
    · rw [e5] at ha
      obtain ⟨a1, a2, a3, a4⟩ := hm.1 i a ha
      exact ⟨a1, (g a (by rw [a2]; decide)).1.trans a2, (P' a 6 (by rw [a2]; decide) (by rw [a2]; decide)).trans a3, (g (a + 1) (by rw [a4]; decide)).1.trans a4⟩
    · rw [e6] at ha
      obtain ⟨a1, a2, a3, a4, a5, a6⟩ := hm.2 i a ha
      exact ⟨a1, (g a (by rw [a2]; decide)).1.trans a2, (P' a 0 (by rw [a2]; decide) (by rw [a2]; decide)).trans a3, (P' a 1 (by rw [a2]; decide) (by rw [a2]; decide)).trans a4, (g (a + 1) (by rw [a5]; decide)).1.trans a5, (g (a + 2) (by rw [a6]; decide)).1.trans a6⟩
  refine ⟨hT, hZ, ⟨fun a h1 h2 => (g a (l a h1 h2)).1.trans (hX.1 a h1 h2), fun t ht => ?_, fun d hd => ?_, fun d hd => ?_, fun d hd => ?_, ?_⟩, gm 35 h35 b40 b41, gm 99 h99 b104 b105, fun q q' hq => ?_⟩
  · obtain ⟨t1, t2, t3⟩ := fx_vp t ht
    rw [P' t.1 t.2.1 (l _ t1 t2) (fun e => by rw [hX.1 _ t1 t2] at e; rw [e] at t3; cases t3)]
    exact hX.2.1 t ht
  · rw [P' _ 0 (l (49 + 2 * d) (by omega) (by omega)) (by rw [hX.1 _ (by omega) (by omega), (fx_bk d hd).1]; decide)]
    exact hX.2.2.1 d hd
  · rw [P' _ 0 (l (85 + 2 * d) (by omega) (by omega)) (by rw [hX.1 _ (by omega) (by omega), (fx_wk d hd).1]; decide)]
    exact hX.2.2.2.1 d hd
  · rw [B' 47 (l 47 (by decide) (by decide)), B' 48 (l 48 (by decide) (by decide)), B' 84 (l 84 (by decide) (by decide))]
    exact hX.2.2.2.2.1 d hd
  · have e := fun a h1 h2 => (g a (l a h1 h2)).2.1
    rw [e 45 (by decide) (by decide), e 46 (by decide) (by decide), e 31 (by decide) (by decide), e 16 (by decide) (by decide)]
    exact hX.2.2.2.2.2
  · rcases hq with ⟨e1, e2⟩ | ⟨e1, e2⟩
    · rw [e1, e2, b41, b105]
      exact hd 35 99 (Or.inl ⟨rfl, rfl⟩)
    · rw [e1, e2, b41, b105]
      exact hd 99 35 (Or.inr ⟨rfl, rfl⟩)
end
section
section FY
variable {W V : List (Nat × Nat)} {B : List Nat} {S S1 S2 : ZS}
theorem frz_F {j a : Nat} {v : Option Nat} (h : FrZ W V B S S1) (hn : Fh S → 18 ≤ zK S a) (e : S2 = zsP S1 j a v) : FrZ W V B S S2 := fun hF => by
  obtain ⟨a1, a2, a3⟩ := h hF
  subst e
  refine ⟨a1, a2, fun b hb => ?_⟩
  obtain ⟨c1, c2, c3, c4, c5⟩ := a3 b hb
  have hne : b ≠ a := fun e1 => by have := hn hF; rw [e1] at hb; omega
  refine ⟨c1, c2, c3, fun i hi => ?_, c5⟩
  show va_up (zP S1) j (va_up (zP S1 j) a v) i b = zP S i b
  by_cases e1 : i = j
  · subst e1
    rw [va_up_self, va_up_ne _ _ hne]
    exact c4 i hi
  · rw [va_up_ne _ _ e1]
    exact c4 i hi
theorem fy_X10_init {S0 : ZS} {o : Int32 × ZS} {x0 : Nat} (h_S : FrZ [(6, 1)] [(6, 0)] [] S0 S) (hn : Fh S0 → 18 ≤ zK S0 x0) (hf : d_X10_init x0 S = some o) : FrZ [(6, 1)] [(6, 0)] [] S0 o.2 := by
  have hf : d_X10_init_0 x0 S = some o := hf
  unfold d_X10_init_0 at hf
  obtain ⟨q1, e1, hf⟩ := m_bndE hf
  obtain ⟨S2, e2, hf⟩ := m_bndE hf
  have h_S2 := frz_nO h_S e1 e2
  obtain ⟨o5, ho, hf⟩ := m_calE hf
  have h_o5 := frz_t h_S2 (fz_X6_init ho) (by decide) (by decide) (by decide)
  clear ho
  obtain ⟨-, hf⟩ := m_chkE hf
  obtain ⟨q3, hf⟩ := m_chkE hf
  obtain ⟨S6, e4, hf⟩ := m_bndE hf
  have h_S6 := frz_F h_o5 hn e4
  obtain ⟨q7, e5, hf⟩ := m_bndE hf
  obtain ⟨S8, e6, hf⟩ := m_bndE hf
  have h_S8 := frz_nO h_S6 e5 e6
  obtain ⟨o11, ho, hf⟩ := m_calE hf
  have h_o11 := frz_t h_S8 (fz_X6_init ho) (by decide) (by decide) (by decide)
  clear ho
  obtain ⟨-, hf⟩ := m_chkE hf
  obtain ⟨q7, hf⟩ := m_chkE hf
  obtain ⟨S12, e8, hf⟩ := m_bndE hf
  have h_S12 := frz_F h_o11 hn e8
  cases hf
  exact h_S12
theorem fy_X1_tagAt_22 {o : Nat × ZS} {t0 : Option Nat} (hf : d_X1_tagAt_22 t0 S = some o) : FrZ [(6, 1)] [(6, 0)] [] S o.2 := by
  have h_S : FrZ [(6, 1)] [(6, 0)] [] S S := frz_0
  have h38 : ∀ {t : Option Nat} {S1 : ZS}, d_X1_tagAt_38 t S1 = some o → o.2 = S1 := fun hf => by
    unfold d_X1_tagAt_38 at hf
    obtain ⟨b1, -, hf⟩ := m_calE hf
    cases hf
    rfl
  unfold d_X1_tagAt_22 at hf
  rcases m_optE hf with ⟨-, hf⟩ | ⟨b1, -, hf⟩
  · obtain ⟨q2, e1, hf⟩ := m_bndE hf
    obtain ⟨S3, e2, hf⟩ := m_bndE hf
    have h_S3 := frz_nO h_S e1 e2
    obtain ⟨⟨r7, S8⟩, ho, hf⟩ := m_cal2E hf
    have h_S8 := fy_X10_init h_S3 (fun hF => hF q2 (by rw [e1]; exact Nat.le_refl _)) ho
    rw [h38 hf]
    exact h_S8
  · rw [h38 hf]
    exact h_S
theorem fy_X1_tagAt {o : Nat × ZS} {x0 : Nat} {x1 : Int32} (hf : d_X1_tagAt x0 x1 S = some o) : FrZ [(6, 1)] [(6, 0)] [] S o.2 := by
  have hf : d_X1_tagAt_0 x0 x1 S = some o := hf
  have h21 : d_X1_tagAt_21 S = some o → FrZ [(6, 1)] [(6, 0)] [] S o.2 := fun hf => by
    unfold d_X1_tagAt_21 at hf
    exact fy_X1_tagAt_22 hf
  unfold d_X1_tagAt_0 at hf
  rcases m_ifE hf with ⟨-, hf⟩ | ⟨-, hf⟩
  · exact h21 hf
  · obtain ⟨q1, hf⟩ := m_chkE hf
    rcases m_ifE hf with ⟨-, hf⟩ | ⟨-, hf⟩
    · exact h21 hf
    · obtain ⟨q2, hf⟩ := m_chkE hf
      obtain ⟨b1, -, hf⟩ := m_calE hf
      obtain ⟨q3, hf⟩ := m_chkE hf
      obtain ⟨-, hf⟩ := m_chkE hf
      obtain ⟨v2, e4, hf⟩ := m_bndE hf
      exact fy_X1_tagAt_22 hf
end FY
theorem fy_X3_putHead_72 {o : Int32 × ZS} {x0 : Nat} {x1 : Nat} {x2 : Nat} {S : ZS}  (hf : d_X3_putHead_72 x0 x1 x2 S = some o) : FrZ [(0, 1), (0, 2), (0, 3), (0, 4), (0, 5), (0, 6), (6, 1)] [(6, 0)] [] S o.2 := by
  have h_S : FrZ [(0, 1), (0, 2), (0, 3), (0, 4), (0, 5), (0, 6), (6, 1)] [(6, 0)] [] S S := frz_0
  unfold d_X3_putHead_72 at hf
  obtain ⟨q1, hf⟩ := m_chkE hf
  obtain ⟨o1, ho, hf⟩ := m_calE hf
  have h_o1 := frz_t h_S (fz_X1_at ho) (by decide) (by decide) (by decide)
  clear ho
  obtain ⟨-, hf⟩ := m_chkE hf
  obtain ⟨⟨r3, S4⟩, ho, hf⟩ := m_cal2E hf
  have h_S4 := frz_t h_o1 (fz_X3_putRemark ho) (by decide) (by decide) (by decide)
  clear ho
  obtain ⟨q2, hf⟩ := m_chkE hf
  obtain ⟨b7, -, hf⟩ := m_calE hf
  obtain ⟨q3, hf⟩ := m_chkE hf
  obtain ⟨-, hf⟩ := m_chkE hf
  obtain ⟨b8, -, hf⟩ := m_calE hf
  obtain ⟨q4, hf⟩ := m_chkE hf
  obtain ⟨b9, -, hf⟩ := m_calE hf
  obtain ⟨q5, hf⟩ := m_chkE hf
  obtain ⟨o10, ho, hf⟩ := m_calE hf
  have h_o10 := frz_t h_S4 (fz_X0_copyFrom ho) (by decide) (by decide) (by decide)
  clear ho
  obtain ⟨-, hf⟩ := m_chkE hf
  cases hf
  exact h_o10
theorem fy_X3_putHead_2s {o : Int32 × ZS} {self2 : Nat → Nat → Nat → Int32 → ZS → Option (Int32 × ZS)} {x0 : Nat} {x1 : Nat} {x2 : Nat} {x3 : Int32} {S : ZS} (hself2 : ∀ (z0 : Nat) (z1 : Nat) (z2 : Nat) (z3 : Int32) (S : ZS) (o : Int32 × ZS), self2 z0 z1 z2 z3 S = some o → FrZ [(0, 1), (0, 2), (0, 3), (0, 4), (0, 5), (0, 6), (6, 1)] [(6, 0)] [] S o.2) (hf : d_X3_putHead_2s self2 x0 x1 x2 x3 S = some o) : FrZ [(0, 1), (0, 2), (0, 3), (0, 4), (0, 5), (0, 6), (6, 1)] [(6, 0)] [] S o.2 := by
  have h_S : FrZ [(0, 1), (0, 2), (0, 3), (0, 4), (0, 5), (0, 6), (6, 1)] [(6, 0)] [] S S := frz_0
  unfold d_X3_putHead_2s at hf
  obtain ⟨q1, hf⟩ := m_chkE hf
  rcases m_ifE hf with ⟨-, hf⟩ | ⟨-, hf⟩
  ·
    obtain ⟨q2, hf⟩ := m_chkE hf
    rcases m_ifE hf with ⟨-, hf⟩ | ⟨-, hf⟩
    ·
      exact frz_t h_S (fy_X3_putHead_72  hf) (fun _ h => h) (fun _ h => h) (fun _ h => h)
    ·
      obtain ⟨q3, hf⟩ := m_chkE hf
      obtain ⟨⟨r2, S3⟩, ho, hf⟩ := m_cal2E hf
      have h_S3 := frz_t h_S (fz_X6_put ho) (by decide) (by decide) (by decide)
      clear ho
      exact frz_t h_S3 (fy_X3_putHead_72  hf) (fun _ h => h) (fun _ h => h) (fun _ h => h)
  ·
    obtain ⟨q4, hf⟩ := m_chkE hf
    obtain ⟨⟨r7, S8⟩, ho, hf⟩ := m_cal2E hf
    have h_S8 := frz_t h_S (fy_X1_tagAt ho) (by decide) (by decide) (by decide)
    clear ho
    obtain ⟨q5, hf⟩ := m_chkE hf
    obtain ⟨⟨r12, S13⟩, ho, hf⟩ := m_cal2E hf
    have h_S13 := frz_t h_S8 (fz_X6_put ho) (by decide) (by decide) (by decide)
    clear ho
    obtain ⟨q6, hf⟩ := m_chkE hf
    obtain ⟨b16, -, hf⟩ := m_calE hf
    obtain ⟨q7, hf⟩ := m_chkE hf
    obtain ⟨⟨r18, S19⟩, ho, hf⟩ := m_cal2E hf
    have h_S19 := frz_t h_S13 (fz_X6_putAll ho) (by decide) (by decide) (by decide)
    clear ho
    obtain ⟨q8, hf⟩ := m_chkE hf
    obtain ⟨⟨r23, S24⟩, ho, hf⟩ := m_cal2E hf
    have h_S24 := frz_t h_S19 (fz_X6_putText ho) (by decide) (by decide) (by decide)
    clear ho
    obtain ⟨q9, hf⟩ := m_chkE hf
    obtain ⟨b27, -, hf⟩ := m_calE hf
    obtain ⟨⟨r29, S30⟩, ho, hf⟩ := m_cal2E hf
    have h_S30 := frz_t h_S24 (fz_X3_putQuoted ho) (by decide) (by decide) (by decide)
    clear ho
    obtain ⟨q10, hf⟩ := m_chkE hf
    obtain ⟨⟨r34, S35⟩, ho, hf⟩ := m_cal2E hf
    have h_S35 := frz_t h_S30 (fz_X6_putText ho) (by decide) (by decide) (by decide)
    clear ho
    obtain ⟨v38, e11, hf⟩ := m_bndE hf
    exact frz_t h_S35 (hself2 _ _ _ _ _ _ hf) (fun _ h => h) (fun _ h => h) (fun _ h => h)
theorem fy_X3_putHead_2   (n : Nat) : ∀ (y0 : Nat) (y1 : Nat) (y2 : Nat) (y3 : Int32) (S : ZS) (o : Int32 × ZS), d_X3_putHead_2  n y0 y1 y2 y3 S = some o → FrZ [(0, 1), (0, 2), (0, 3), (0, 4), (0, 5), (0, 6), (6, 1)] [(6, 0)] [] S o.2 := by
  induction n with
  | zero => intro y0 y1 y2 y3 S o hf; cases hf
  | succ n ih => intro y0 y1 y2 y3 S o hf; exact fy_X3_putHead_2s  ih hf
theorem fy_X3_putHead_0 {o : Int32 × ZS} {x0 : Nat} {x1 : Nat} {x2 : Nat} {S : ZS}  (hf : d_X3_putHead_0 x0 x1 x2 S = some o) : FrZ [(0, 1), (0, 2), (0, 3), (0, 4), (0, 5), (0, 6), (6, 1)] [(6, 0)] [] S o.2 := by
  have h_S : FrZ [(0, 1), (0, 2), (0, 3), (0, 4), (0, 5), (0, 6), (6, 1)] [(6, 0)] [] S S := frz_0
  unfold d_X3_putHead_0 at hf
  exact frz_t h_S (fy_X3_putHead_2  _ _ _ _ _ _ _ hf) (fun _ h => h) (fun _ h => h) (fun _ h => h)
theorem fy_X3_putHead {o : Int32 × ZS} {x0 : Nat} {x1 : Nat} {x2 : Nat} {S : ZS}  (hf : d_X3_putHead x0 x1 x2 S = some o) : FrZ [(0, 1), (0, 2), (0, 3), (0, 4), (0, 5), (0, 6), (6, 1)] [(6, 0)] [] S o.2 := by
  have h_S : FrZ [(0, 1), (0, 2), (0, 3), (0, 4), (0, 5), (0, 6), (6, 1)] [(6, 0)] [] S S := frz_0
  unfold d_X3_putHead at hf
  exact frz_t h_S (fy_X3_putHead_0  hf) (fun _ h => h) (fun _ h => h) (fun _ h => h)
theorem fy_X11_write_0 {o : Int32 × ZS} {x0 : Nat} {S : ZS}  (hf : d_X11_write_0 x0 S = some o) : FrZ [(0, 1), (0, 2), (0, 3), (0, 4), (0, 5), (0, 6), (6, 1)] [(6, 0)] [] S o.2 := by
  have h_S : FrZ [(0, 1), (0, 2), (0, 3), (0, 4), (0, 5), (0, 6), (6, 1)] [(6, 0)] [] S S := frz_0
  unfold d_X11_write_0 at hf
  obtain ⟨q1, hf⟩ := m_chkE hf
  obtain ⟨b1, -, hf⟩ := m_calE hf
  obtain ⟨q2, hf⟩ := m_chkE hf
  obtain ⟨o2, ho, hf⟩ := m_calE hf
  have h_o2 := frz_t h_S (fz_X6_keep ho) (by decide) (by decide) (by decide)
  clear ho
  obtain ⟨-, hf⟩ := m_chkE hf
  obtain ⟨q3, hf⟩ := m_chkE hf
  obtain ⟨b3, -, hf⟩ := m_calE hf
  obtain ⟨q4, hf⟩ := m_chkE hf
  obtain ⟨b4, -, hf⟩ := m_calE hf
  obtain ⟨q5, hf⟩ := m_chkE hf
  obtain ⟨b5, -, hf⟩ := m_calE hf
  obtain ⟨q6, hf⟩ := m_chkE hf
  obtain ⟨⟨r7, S8⟩, ho, hf⟩ := m_cal2E hf
  have h_S8 := frz_t h_o2 (fy_X3_putHead ho) (by decide) (by decide) (by decide)
  clear ho
  obtain ⟨q7, hf⟩ := m_chkE hf
  obtain ⟨b11, -, hf⟩ := m_calE hf
  obtain ⟨q8, hf⟩ := m_chkE hf
  obtain ⟨b12, -, hf⟩ := m_calE hf
  obtain ⟨q9, hf⟩ := m_chkE hf
  obtain ⟨b13, -, hf⟩ := m_calE hf
  obtain ⟨q10, hf⟩ := m_chkE hf
  obtain ⟨o14, ho, hf⟩ := m_calE hf
  have h_o14 := frz_t h_S8 (fz_X1_at ho) (by decide) (by decide) (by decide)
  clear ho
  obtain ⟨-, hf⟩ := m_chkE hf
  obtain ⟨q11, hf⟩ := m_chkE hf
  obtain ⟨q12, hf⟩ := m_chkE hf
  obtain ⟨b15, -, hf⟩ := m_calE hf
  obtain ⟨q13, hf⟩ := m_chkE hf
  obtain ⟨⟨r17, S18⟩, ho, hf⟩ := m_cal2E hf
  have h_S18 := frz_t h_o14 (fz_X3_putLine ho) (by decide) (by decide) (by decide)
  clear ho
  obtain ⟨q14, hf⟩ := m_chkE hf
  obtain ⟨b21, -, hf⟩ := m_calE hf
  obtain ⟨q15, hf⟩ := m_chkE hf
  obtain ⟨b22, -, hf⟩ := m_calE hf
  obtain ⟨q16, hf⟩ := m_chkE hf
  obtain ⟨b23, -, hf⟩ := m_calE hf
  obtain ⟨q17, hf⟩ := m_chkE hf
  obtain ⟨⟨r25, S26⟩, ho, hf⟩ := m_cal2E hf
  have h_S26 := frz_t h_S18 (fz_X3_putEnd ho) (by decide) (by decide) (by decide)
  clear ho
  obtain ⟨q18, hf⟩ := m_chkE hf
  obtain ⟨b29, -, hf⟩ := m_calE hf
  obtain ⟨q19, hf⟩ := m_chkE hf
  obtain ⟨o30, ho, hf⟩ := m_calE hf
  have h_o30 := frz_t h_S26 (fz_X6_size ho) (by decide) (by decide) (by decide)
  clear ho
  obtain ⟨-, hf⟩ := m_chkE hf
  cases hf
  exact h_o30
theorem fy_X11_write {o : Int32 × ZS} {x0 : Nat} {S : ZS}  (hf : d_X11_write x0 S = some o) : FrZ [(0, 1), (0, 2), (0, 3), (0, 4), (0, 5), (0, 6), (6, 1)] [(6, 0)] [] S o.2 := by
  have h_S : FrZ [(0, 1), (0, 2), (0, 3), (0, 4), (0, 5), (0, 6), (6, 1)] [(6, 0)] [] S S := frz_0
  unfold d_X11_write at hf
  exact frz_t h_S (fy_X11_write_0  hf) (fun _ h => h) (fun _ h => h) (fun _ h => h)
theorem fy_X11_tag_19 {o : (Nat × Int32) × ZS} {S : ZS}  (hf : d_X11_tag_19 S = some o) : FrZ [(6, 1)] [(6, 0)] [] S o.2 := by
  have h_S : FrZ [(6, 1)] [(6, 0)] [] S S := frz_0
  unfold d_X11_tag_19 at hf
  cases hf
  exact frz_Q h_S rfl
theorem fy_X11_tag_65 {o : (Nat × Int32) × ZS} {t0 : Int32} {S : ZS}  (hf : d_X11_tag_65 t0 S = some o) : FrZ [(6, 1)] [(6, 0)] [] S o.2 := by
  have h_S : FrZ [(6, 1)] [(6, 0)] [] S S := frz_0
  unfold d_X11_tag_65 at hf
  cases hf
  exact h_S
theorem fy_X11_tag_0 {o : (Nat × Int32) × ZS} {x0 : Nat} {x1 : Int32} {x2 : Int32} {x3 : Int32} {S : ZS}  (hf : d_X11_tag_0 x0 x1 x2 x3 S = some o) : FrZ [(6, 1)] [(6, 0)] [] S o.2 := by
  have h_S : FrZ [(6, 1)] [(6, 0)] [] S S := frz_0
  unfold d_X11_tag_0 at hf
  rcases m_ifE hf with ⟨-, hf⟩ | ⟨-, hf⟩
  ·
    exact frz_t h_S (fy_X11_tag_19  hf) (fun _ h => h) (fun _ h => h) (fun _ h => h)
  ·
    obtain ⟨q1, hf⟩ := m_chkE hf
    obtain ⟨b1, -, hf⟩ := m_calE hf
    obtain ⟨q2, hf⟩ := m_chkE hf
    rcases m_ifE hf with ⟨-, hf⟩ | ⟨-, hf⟩
    ·
      exact frz_t h_S (fy_X11_tag_19  hf) (fun _ h => h) (fun _ h => h) (fun _ h => h)
    ·
      rcases m_ifE hf with ⟨-, hf⟩ | ⟨-, hf⟩
      ·
        obtain ⟨q3, hf⟩ := m_chkE hf
        obtain ⟨b2, -, hf⟩ := m_calE hf
        obtain ⟨q4, hf⟩ := m_chkE hf
        obtain ⟨⟨r4, S5⟩, ho, hf⟩ := m_cal2E hf
        have h_S5 := frz_t h_S (fy_X1_tagAt ho) (by decide) (by decide) (by decide)
        clear ho
        rcases m_ifE hf with ⟨-, hf⟩ | ⟨-, hf⟩
        ·
          obtain ⟨q5, hf⟩ := m_chkE hf
          obtain ⟨b8, -, hf⟩ := m_calE hf
          obtain ⟨q6, hf⟩ := m_chkE hf
          obtain ⟨o9, ho, hf⟩ := m_calE hf
          have h_o9 := frz_t h_S5 (fz_X6_at ho) (by decide) (by decide) (by decide)
          clear ho
          obtain ⟨-, hf⟩ := m_chkE hf
          exact frz_t h_o9 (fy_X11_tag_65  hf) (fun _ h => h) (fun _ h => h) (fun _ h => h)
        ·
          obtain ⟨q7, hf⟩ := m_chkE hf
          obtain ⟨b10, -, hf⟩ := m_calE hf
          obtain ⟨q8, hf⟩ := m_chkE hf
          obtain ⟨o11, ho, hf⟩ := m_calE hf
          have h_o11 := frz_t h_S5 (fz_X6_at ho) (by decide) (by decide) (by decide)
          clear ho
          obtain ⟨-, hf⟩ := m_chkE hf
          exact frz_t h_o11 (fy_X11_tag_65  hf) (fun _ h => h) (fun _ h => h) (fun _ h => h)
      ·
        exact frz_t h_S (fy_X11_tag_19  hf) (fun _ h => h) (fun _ h => h) (fun _ h => h)
theorem fy_X11_tag {o : (Nat × Int32) × ZS} {x0 : Nat} {x1 : Int32} {x2 : Int32} {x3 : Int32} {S : ZS}  (hf : d_X11_tag x0 x1 x2 x3 S = some o) : FrZ [(6, 1)] [(6, 0)] [] S o.2 := by
  have h_S : FrZ [(6, 1)] [(6, 0)] [] S S := frz_0
  unfold d_X11_tag at hf
  exact frz_t h_S (fy_X11_tag_0  hf) (fun _ h => h) (fun _ h => h) (fun _ h => h)
end
section
/-- the class's cells, without what the totality keeps -/
noncomputable def CGx (S : ZS) : Prop := FIX S ∧ GM S 35 ∧ GM S 99 ∧ TDX S
/-- the class between two calls: its cells, and which game is read into, which one stands -/
noncomputable def SC (S : ZS) : Prop := CGx S ∧ ∃ g g', GG g g' ∧ zP S 3 23 = some g ∧ zP S 7 1 = some g'
section SIM
variable {S S' : ZS} {g g' : Nat} {ch : Int → Int} {N : Int} {I I' : Nat → Int32} {A A' : Nat → Nat → Int32} {W V : List (Nat × Nat)} {Q : Nat → Prop}
theorem cg_of (hT : ZT S) (hZ : TZ S) (h : CGx S) : CG S := ⟨hT, hZ, h.1, h.2.1, h.2.2.1, h.2.2.2⟩
theorem cg_x (h : CG S) : CGx S := ⟨h.2.2.1, h.2.2.2.1, h.2.2.2.2.1, h.2.2.2.2.2⟩
theorem cgx_g (h : CGx S) (hg : g = 35 ∨ g = 99) : GM S g := by
  rcases hg with e | e
  · rw [e]; exact h.2.1
  · rw [e]; exact h.2.2.1
theorem cgx_z (h : CGx S) (hF : Fh S) (f : FrZ W V [] S S') (hV : ∀ z ∈ V, z.1 = 6) : CGx S' := by
  have g := (f hF).2.2
  obtain ⟨hX, h35, h99, hd⟩ := h
  have nv : ∀ a j, zK S a ≠ 6 → (zK S a, j) ∉ V := fun a j hn hm => hn (hV _ hm)
  have l := fun a h1 h2 => fx_l (a := a) hX h1 h2
  have P' : ∀ a j, zK S a < 18 → zK S a ≠ 6 → zP S' j a = zP S j a := fun a j ha hn => (g a ha).2.2.2.1 j (nv a j hn)
  have B' : ∀ a, zK S a < 18 → zB S' a = zB S a := fun a ha => (g a ha).2.2.2.2 (fun hm => by cases hm)
  have b40 := B' 40 (l 40 (by decide) (by decide))
  have b41 := B' 41 (l 41 (by decide) (by decide))
  have b104 := B' 104 (l 104 (by decide) (by decide))
  have b105 := B' 105 (l 105 (by decide) (by decide))
  have gm : ∀ q, GM S q → zB S' (q + 5) = zB S (q + 5) → zB S' (q + 6) = zB S (q + 6) → GM S' q := fun q hm e5 e6 => by
    refine ⟨fun i a ha => ?_, fun i a ha => ?_⟩
    · rw [e5] at ha
      obtain ⟨a1, a2, a3, a4⟩ := hm.1 i a ha
      exact ⟨a1, (g a (by rw [a2]; decide)).1.trans a2, (P' a 6 (by rw [a2]; decide) (by rw [a2]; decide)).trans a3, (g (a + 1) (by rw [a4]; decide)).1.trans a4⟩
    · rw [e6] at ha
      obtain ⟨a1, a2, a3, a4, a5, a6⟩ := hm.2 i a ha
      exact ⟨a1, (g a (by rw [a2]; decide)).1.trans a2, (P' a 0 (by rw [a2]; decide) (by rw [a2]; decide)).trans a3, (P' a 1 (by rw [a2]; decide) (by rw [a2]; decide)).trans a4, (g (a + 1) (by rw [a5]; decide)).1.trans a5, (g (a + 2) (by rw [a6]; decide)).1.trans a6⟩
  refine ⟨⟨fun a h1 h2 => (g a (l a h1 h2)).1.trans (hX.1 a h1 h2), fun t ht => ?_, fun d hd => ?_, fun d hd => ?_, fun d hd => ?_, ?_⟩, gm 35 h35 b40 b41, gm 99 h99 b104 b105, fun q q' hq => ?_⟩
  · obtain ⟨t1, t2, t3⟩ := fx_vp t ht
    rw [P' t.1 t.2.1 (l _ t1 t2) (fun e => by rw [hX.1 _ t1 t2] at e; rw [e] at t3; cases t3)]
    exact hX.2.1 t ht
  · rw [P' _ 0 (l (49 + 2 * d) (by omega) (by omega)) (by rw [hX.1 _ (by omega) (by omega), (fx_bk d hd).1]; decide)]
    exact hX.2.2.1 d hd
  · rw [P' _ 0 (l (85 + 2 * d) (by omega) (by omega)) (by rw [hX.1 _ (by omega) (by omega), (fx_wk d hd).1]; decide)]
    exact hX.2.2.2.1 d hd
  · rw [B' 47 (l 47 (by decide) (by decide)), B' 48 (l 48 (by decide) (by decide)), B' 84 (l 84 (by decide) (by decide))]
    exact hX.2.2.2.2.1 d hd
  · have e := fun a h1 h2 => (g a (l a h1 h2)).2.1
    rw [e 45 (by decide) (by decide), e 46 (by decide) (by decide), e 31 (by decide) (by decide), e 16 (by decide) (by decide)]
    exact hX.2.2.2.2.2
  · rcases hq with ⟨e1, e2⟩ | ⟨e1, e2⟩
    · rw [e1, e2, b41, b105]
      exact hd 35 99 (Or.inl ⟨rfl, rfl⟩)
    · rw [e1, e2, b41, b105]
      exact hd 99 35 (Or.inr ⟨rfl, rfl⟩)
/-- what is told by kinds, ints, references and arrays alone -/
theorem sc_c (hK : zK S' = zK S) (hP : zP S' = zP S) (hN : zN S' = zN S) (hB : zB S' = zB S) (h : SC S) : SC S' := by
  unfold SC CGx FIX GM TDX at h ⊢
  simp only [hK, hP, hN, hB]
  exact h
theorem sc_q (h : SC S) : SC (zsQ S) := sc_c (S := S) rfl rfl rfl rfl h
theorem sc_z (h : SC S) (hT : ZT S) (f : FrZ W V [] S S') (hV : ∀ z ∈ V, z.1 = 6) : SC S' := by
  have q := (f hT.2.2.2.2.1).2.2
  obtain ⟨hx, g, g', h1, h2, h3⟩ := h
  have k23 : zK S 23 = 2 := fx_k hx.1 (by decide) (by decide)
  have k1 : zK S 1 = 11 := fx_k hx.1 (by decide) (by decide)
  refine ⟨cgx_z hx hT.2.2.2.2.1 f hV, g, g', h1, ?_, ?_⟩
  · rw [(q 23 (by rw [k23]; decide)).2.2.2.1 3 (fun hm => by have := hV _ hm; rw [k23] at this; cases this)]
    exact h2
  · rw [(q 1 (by rw [k1]; decide)).2.2.2.1 7 (fun hm => by have := hV _ hm; rw [k1] at this; cases this)]
    exact h3
theorem sc_fr (h : SC S) (hC : CGx S') (hF : FR Q S S') : SC S' := by
  obtain ⟨hx, g, g', h1, h2, h3⟩ := h
  have k23 : zK S 23 = 2 := fx_k hx.1 (by decide) (by decide)
  have k1 : zK S 1 = 11 := fx_k hx.1 (by decide) (by decide)
  exact ⟨hC, g, g', h1, ((hF 23 (by rw [k23]; decide)).1.2.2.1 (by rw [k23]; rfl) 3).trans h2, ((hF 1 (by rw [k1]; decide)).1.2.2.1 (by rw [k1]; rfl) 7).trans h3⟩
/-- the class's text stays -/
theorem tx_xr (hk : zK S 2 = 6) (h : TXc S ch N) (hx : XR S S') : TXc S' ch N := by
  obtain ⟨x1, x2, x3, x4⟩ := hx 2 hk (by decide)
  obtain ⟨h1, h2, h3, h4⟩ := h
  refine ⟨?_, by rw [x2]; exact h2, h3, h4⟩
  rw [← h1]
  funext i
  unfold rwC
  rw [x2, x3]
  cases e : zP S 0 2 with
  | none => rfl
  | some b => simp only [(x4 b e).2]
theorem tx_eq (hk : zK S 2 = 6) (h : TXc S ch N) (e : EQc S S' 2) : TXc S' ch N := by
  obtain ⟨h1, h2, h3, h4⟩ := h
  exact ⟨(eqc_rw e hk).trans h1, by rw [e.2.2.1]; exact h2, h3, h4⟩
theorem tr_0 (h : (I 1).toInt = 0) : txR I A = fun _ => 0 := by
  funext i
  unfold txR
  rw [if_neg (by omega)]
theorem wA_7 {w : List Int} (h : ∀ c ∈ w, 0 ≤ c ∧ c ≤ 127) (i : Int) : 0 ≤ wA w i ∧ wA w i ≤ 127 := by
  by_cases c : 0 ≤ i ∧ i < (w.length : Int)
  · obtain ⟨k, rfl⟩ : ∃ k : Nat, i = (k : Int) := ⟨i.toNat, by omega⟩
    rw [wA_in (show k < w.length by omega)]
    exact h _ (List.getElem_mem _)
  · rw [wA_out (by omega)]; omega
theorem wA_m {w : List Int} (h : ∀ i, 0 ≤ wA w i ∧ wA w i ≤ 127) : ∀ c ∈ w, 0 ≤ c ∧ c ≤ 127 := fun c hc => by
  obtain ⟨k, hk, e⟩ := List.mem_iff_getElem.1 hc
  rw [← e, ← wA_in hk]
  exact h _
theorem bys_b {x : Int64} {n : Int} (h : GBs x n) (hn : n ≤ 8) : ∀ k : Nat, (k : Int) ≤ n → ∀ c ∈ bys x k, 0 ≤ c ∧ c ≤ 127
  | 0, _ => fun c hc => by cases hc
  | k + 1, hk => fun c hc => by
    have hc : c ∈ bys x k ++ [(tyB x (Int32.ofInt (k : Int))).toInt] := hc
    rcases List.mem_append.1 hc with hc | hc
    · exact bys_b h hn k (by omega) c hc
    · rw [List.mem_singleton.1 hc]
      have e8 : ∀ k : Nat, k < 8 → (Int32.ofInt (k : Int)).toInt = (k : Int) := by decide
      have e := e8 k (by omega)
      have q := h (Int32.ofInt (k : Int)) (by omega) (by omega)
      unfold GBy at q
      omega
theorem tx_mk {w : List Int} (hr : RWL S 2 w) (ht : TXl I A w) (hl : w.length ≤ 2000) (hb : ∀ c ∈ w, 0 ≤ c ∧ c ≤ 127) : TXc S (txR I A) (I 1).toInt :=
  ⟨funext fun i => by rw [hr.2 i, ht.2 i], by rw [hr.1, ht.1], by rw [ht.1]; omega, fun i => by rw [ht.2 i]; exact wA_7 hb i⟩
/-- both sides between two calls, as far as the text goes -/
noncomputable def SM (I : Nat → Int32) (A : Nat → Nat → Int32) (S : ZS) : Prop := SC S ∧ TXc S (txR I A) (I 1).toInt
theorem sm_z (hs : SM I A S) (hT : ZT S) (f : FrZ W V [] S S') (hV : ∀ z ∈ V, z.1 = 6) (hx : XR S S') (h1 : I' 1 = I 1) (h2 : A' 2 = A 2) : SM I' A' S' :=
  ⟨sc_z hs.1 hT f hV, by rw [tx_fr h1 h2, h1]; exact tx_xr (fx_k hs.1.1.1 (by decide) (by decide)) hs.2 hx⟩
theorem sm_x (hs : SM I A S) (hc : SC S') (hx : XR S S') (h1 : I' 1 = I 1) (h2 : A' 2 = A 2) : SM I' A' S' :=
  ⟨hc, by rw [tx_fr h1 h2, h1]; exact tx_xr (fx_k hs.1.1.1 (by decide) (by decide)) hs.2 hx⟩
theorem sm_c (hK : zK S' = zK S) (hI : zI S' = zI S) (hP : zP S' = zP S) (hN : zN S' = zN S) (hA : zA S' = zA S) (hB : zB S' = zB S) (h : SM I A S) : SM I A S' := by
  refine ⟨sc_c hK hP hN hB h.1, ?_⟩
  have h2 := h.2
  unfold TXc rwC at h2 ⊢
  simp only [hI, hP, hA]
  exact h2
theorem sm_type {x : Int64} {x3 : Int32} {o2 : Int32 × MS} {o : Int32 × ZS} (hC : CG S) (hs : SM I A S) (h2 : f_type x x3 I A = some o2) (ho : d_X11_type 1 x x3 S = some o) : o.1 = o2.1 ∧ SM o2.2.1 o2.2.2 o.2 := by
  obtain ⟨w, hw, hl, hcw⟩ := tx_l hC hs.2
  have tl : TXl I A w := ⟨hl.symm, fun i => (hcw i).symm⟩
  have wb := hs.2.2.2
  have wl : w.length ≤ 2000 := by omega
  have hb : ∀ c ∈ w, 0 ≤ c ∧ c ≤ 127 := wA_m (fun i => by rw [hcw i]; exact wb.2 i)
  rcases p_type hC hw ho with ⟨a1, a2, a3, a4, a5⟩ | ⟨a1, a2, a3⟩
  · rcases v_type tl wl h2 with ⟨b1, b2, b3⟩ | ⟨b1, -⟩
    · refine ⟨Int32.toInt_inj.1 (a2.trans b2.symm), sc_fr hs.1 (cg_x a3) a5, ?_⟩
      obtain ⟨⟨n1, n2⟩, n3, n4⟩ := a1
      refine tx_mk a4 b3 ?_ (fun c hc => ?_)
      · rw [List.length_append, bys_l]; omega
      · rcases List.mem_append.1 hc with hc | hc
        · exact hb c hc
        · exact bys_b n4 n2 _ (by omega) c hc
    · exact absurd a1 b1
  · rcases v_type tl wl h2 with ⟨b1, -⟩ | ⟨b1, b2, b3⟩
    · exact absurd b1 a1
    · refine ⟨Int32.toInt_inj.1 (a2.trans b2.symm), ?_⟩
      rw [a3]
      exact ⟨hs.1, tx_mk hw b3 wl hb⟩
theorem sm_cut {x1 : Int32} {o2 : Int32 × MS} {o : Int32 × ZS} (hC : CG S) (hs : SM I A S) (h2 : f_cut x1 I A = some o2) (ho : f_X11_cut 1 x1 S = some o) : o.1 = o2.1 ∧ SM o2.2.1 o2.2.2 o.2 := by
  rcases p_cut hC hs.2 ho with ⟨a1, a2, a3, a4, a5⟩ | ⟨a1, a2, a3⟩
  · rcases v_cut rfl rfl h2 with ⟨b1, b2, b3, b4⟩ | ⟨b1, -⟩
    · exact ⟨Int32.toInt_inj.1 (a2.trans b2.symm), sc_fr hs.1 (cg_x a3) a5, by rw [b3, b4]; exact a4⟩
    · exact absurd a1 b1
  · rcases v_cut rfl rfl h2 with ⟨b1, -⟩ | ⟨b1, b2, b3, b4⟩
    · exact absurd b1 a1
    · refine ⟨Int32.toInt_inj.1 (a2.trans b2.symm), ?_⟩
      rw [a3]
      exact ⟨hs.1, by rw [b3, b4]; exact hs.2⟩
theorem sm_say {o2 : Int32 × MS} {o : (Nat × Int32) × ZS} (hC : CG S) (hs : SM I A S) (h2 : f_say I A = some o2) (ho : d_X11_say 1 S = some o) : (o.1.1 = 0 ∧ (o2.2.1 0).toInt = 0 ∧ o.1.2 = o2.1 ∧ SM o2.2.1 o2.2.2 o.2) ∨ (o.1.1 = 1 ∧ (o2.2.1 0).toInt = 1 ∧ o2.1.toInt = 0 ∧ o.2 = zsQ S ∧ SM o2.2.1 o2.2.2 S) := by
  obtain ⟨g, g', hg, p3, p7⟩ := hs.1.2
  have wb := hs.2.2.2
  rcases p_say hC (gg_g (gg_s hg)) p7 hs.2 ho with ⟨a1, a2, a3, a4, a5, a6, -⟩ | ⟨a1, a2, a3⟩
  · rcases v_say rfl rfl wb.1 h2 with ⟨b1, b2, b3, b4⟩ | ⟨b1, -⟩
    · exact Or.inl ⟨a2, b3, Int32.toInt_inj.1 (by rw [a3, b2]), sc_fr hs.1 (cg_x a4) a6, by rw [tr_0 b4, b4]; exact a5⟩
    · exact absurd a1 b1
  · rcases v_say rfl rfl wb.1 h2 with ⟨b1, -⟩ | ⟨b1, b2, b3, b4⟩
    · exact absurd b1 a1
    · exact Or.inr ⟨a2, b3, b2, a3, hs.1, by rw [tx_fr b4 ((fw_say h2).2 2 (by decide)), b4]; exact hs.2⟩
theorem sm_read {o2 : Int32 × MS} {o : Int32 × ZS} (hC : CG S) (hI : TJ I) (hA : TK A) (hs : SM I A S) (h2 : f_read I A = some o2) (ho : d_X11_read 1 S = some o) : SM o2.2.1 o2.2.2 o.2 := by
  obtain ⟨g, g', hg, p3, p7⟩ := hs.1.2
  have wb := hs.2.2.2
  have b5 : 0 ≤ (I 5).toInt ∧ (I 5).toInt ≤ 1 := hI 5
  rcases p_read hC hg p3 p7 hs.2 ho with ⟨L, st, T, r, a1, a2, a3, a4, a5, a6, -⟩ | ⟨a1, a2, a3⟩
  · rcases v_read (g := 1 - (I 5).toInt.toNat) hI hA rfl rfl wb.1 wb.2 (by omega) (by omega) h2 with ⟨L', st', T', r', b1, b2, b3, -⟩ | ⟨b1, -⟩
    · exact ⟨⟨cg_x a3, g', g, gg_s hg, a4, a5⟩, by rw [tr_0 b3, b3]; exact a6⟩
    · rw [a1] at b1; cases b1
  · rcases v_read (g := 1 - (I 5).toInt.toNat) hI hA rfl rfl wb.1 wb.2 (by omega) (by omega) h2 with ⟨L', st', T', r', b1, -⟩ | ⟨b1, b2, b3, b4, -⟩
    · rw [a1] at b1; cases b1
    · have k2 : zK S 2 = 6 := fx_k hs.1.1.1 (by decide) (by decide)
      have k23 : zK S 23 = 2 := fx_k hs.1.1.1 (by decide) (by decide)
      have k1 : zK S 1 = 11 := fx_k hs.1.1.1 (by decide) (by decide)
      have e1 : EQc S (zsP S 2 23 (some 2)) 1 := eqc_P rfl (by decide)
      have e2 : EQc S (zsP S 2 23 (some 2)) 2 := eqc_P rfl (by decide)
      have e3 : zP (zsP S 2 23 (some 2)) 3 23 = zP S 3 23 := by
        show va_up (zP S) 2 (va_up (zP S 2) 23 (some 2)) 3 23 = zP S 3 23
        rw [va_up_ne _ _ (by decide)]
      refine ⟨⟨cg_x a2, g, g', hg, ?_, ?_⟩, ?_⟩
      · have q := (a3 23 (by show zK S 23 < 18; rw [k23]; decide)).1.2.2.1 (by show vPk (zK S 23) = false; rw [k23]; rfl) 3
        rw [q, e3]; exact p3
      · have q := (a3 1 (by show zK S 1 < 18; rw [k1]; decide)).1.2.2.1 (by show vPk (zK S 1) = false; rw [k1]; rfl) 7
        rw [q, e1.2.2.2.1]; exact p7
      · rw [tx_fr b3 b4, b3]
        exact tx_eq (show zK (zsP S 2 23 (some 2)) 2 = 6 from k2) (tx_eq k2 hs.2 e2) (fr_e a3 (by show zK S 2 < 18; rw [k2]; decide) (fun hn => hn (Or.inl ⟨by decide, by decide⟩)))
end SIM
end
section
section GRZ
variable {S S' : ZS} {g g' n : Nat} {o : Int32 × ZS} {x1 x2 x3 : Int32}
/-- room for a node more, without a tree -/
theorem gz_64 (hT : ZT S) (hx : CGx S) (hg : g = 35 ∨ g = 99) (h : cn S g = n) (hn : n < 300) (hf : d_X1_grow_64 g x1 x2 x3 S = some o) : ∃ SX c, GXn S SX g c (n) ∧ d_X1_grow_102 g x1 x2 x3 SX = some o := by
  obtain ⟨⟨kg, p0, p1, p2, p4, p7⟩, ⟨k1, k2', k3, k4, k5, k6, k7⟩, -⟩ := fx_g hx.1 hg
  have hc := cn_le hT kg
  rw [h] at hc
  have G := (cgx_g hx hg).1
  unfold d_X1_grow_64 at hf
  obtain ⟨-, hf⟩ := m_chkE hf
  obtain ⟨v1, e_v1, hf⟩ := m_bndE hf
  have t_v1 : v1.toInt = (zI S 3 g).toInt + 1 := ti_add e_v1 rfl (show (1 : Int32).toInt = 1 from rfl) (by omega) (by omega)
  obtain ⟨-, hf⟩ := m_chkE hf
  obtain ⟨S2, e_S2, hf⟩ := m_bndE hf
  have T2 : ZT S2 := e_S2.symm ▸ zt_I hT kg (by decide) (show (0 : Int) ≤ v1.toInt ∧ v1.toInt ≤ (300 : Int) by omega)
  have kk : zK S2 = zK S := by rw [e_S2]; rfl
  have pp : zP S2 = zP S := by rw [e_S2]; rfl
  have bb : zB S2 = zB S := by rw [e_S2]; rfl
  have i2 : zI S2 3 g = v1 := by rw [e_S2]; exact zI_self _ _ _ _
  have P2 : zP S2 2 g = some (g + 5) := by rw [pp]; exact p2
  have ix : (zI S2 3 g).toNatClampNeg = n + 1 := by rw [i2]; exact cl_n (by omega)
  have F2 : FR (fun a => a = g) S S2 := fr_I e_S2
  rw [ix] at hf
  obtain ⟨-, hf⟩ := m_chkE hf
  replace hf := m_calY hf P2
  obtain ⟨-, hf⟩ := m_chkE hf
  obtain ⟨-, hf⟩ := m_chkE hf
  obtain ⟨-, hf⟩ := m_chkE hf
  obtain ⟨v4, e_v4, hf⟩ := m_bndE hf
  rw [bb] at e_v4
  rcases m_optE hf with ⟨n_b5, hf⟩ | ⟨b5, h_b5, hf⟩
  · skip
    rw [n_b5] at e_v4
    have T0 : 18 ≤ zK S2 (zt S2) := T2.2.2.2.2.1 _ (Nat.le_refl _)
    have T1 : 18 ≤ zK S2 (zt S2 + 1) := T2.2.2.2.2.1 _ (by omega)
    obtain ⟨-, hf⟩ := m_chkE hf
    replace hf := m_calY hf P2
    obtain ⟨-, hf⟩ := m_chkE hf
    obtain ⟨q7, e_q7, hf⟩ := m_bndE hf
    obtain ⟨S8, e_S8, hf⟩ := m_bndE hf
    rw [e_q7] at e_S8 hf
    rw [e_S8] at hf
    obtain ⟨⟨r12, S13⟩, h_r12, hf⟩ := m_cal2E hf
    dsimp only at hf
    rw [init4 S2] at h_r12
    cases h_r12
    obtain ⟨-, hf⟩ := m_chkE hf
    obtain ⟨-, hf⟩ := m_chkE hf
    obtain ⟨-, hf⟩ := m_chkE hf
    obtain ⟨S16, e_S16, hf⟩ := m_bndE hf
    have hz : zB S2 (g + 5) (n + 1) = none := by rw [bb]; exact e_v4.symm
    have kb2 : zK S2 (g + 5) = 16 := by rw [kk]; exact k5
    obtain ⟨TX, -⟩ := rm_node (i := n + 1) T2 kb2 hz (by omega)
    obtain ⟨f1, f2, f3, f4, f5⟩ := nd_f S2
    obtain ⟨g1, g2, g3, -⟩ := nd_e S2
    have nN : ∀ a, zK S a < 18 → ¬ (a = zt S2 ∨ a = zt S2 + 1) := fun a ha e => by
      have := T2.2.2.2.2.1 a (by omega)
      rw [kk] at this
      omega
    have KX : ∀ a, zK S a < 18 → zK S16 a = zK S a := fun a ha => by
      rw [e_S16]
      show zK (zNd S2) a = _
      rw [f1 a (nN a ha), kk]
    have BX : ∀ a, a ≠ g + 5 → zB S16 a = zB S a := fun a ha => by
      rw [e_S16]
      show va_up (zB (zNd S2)) (g + 5) _ a = _
      rw [va_up_ne _ _ ha, g3, bb]
    have IX' : ∀ a j, zK S a < 18 → zI S16 j a = zI S2 j a := fun a j ha => by
      rw [e_S16]
      show zI (zNd S2) j a = _
      rw [f2 a j (nN a ha)]
    have PX : ∀ a j, zK S a < 18 → zP S16 j a = zP S j a := fun a j ha => by
      rw [e_S16]
      show zP (zNd S2) j a = _
      rw [f3 a j (nN a ha), pp]
    have NX : ∀ a, zN S16 a = zN S a := fun a => by
      rw [e_S16]
      show zN (zNd S2) a = _
      rw [g1, e_S2]; rfl
    have AX : ∀ a, zA S16 a = zA S a := fun a => by
      rw [e_S16]
      show zA (zNd S2) a = _
      rw [g2, e_S2]; rfl
    refine ⟨S16, zt S2, ⟨⟨?_, fun i hi => ?_⟩, ?_, fun j hj => ?_, fun a ha => ?_, Or.inr ⟨by rw [← kk]; exact T0, by rw [← kk]; exact T1⟩, ⟨T2.2.2.2.2.2.2.2.2.2.2.1, ?_, ?_, ?_⟩, by rw [e_S16]; exact TX⟩, hf⟩
    · rw [e_S16]
      show va_up (zB (zNd S2)) (g + 5) (va_up (zB (zNd S2) (g + 5)) (n + 1) (some (zt S2))) (g + 5) (n + 1) = _
      rw [va_up_self, va_up_self]
    · rw [e_S16]
      show va_up (zB (zNd S2)) (g + 5) (va_up (zB (zNd S2) (g + 5)) (n + 1) (some (zt S2))) (g + 5) i = _
      rw [va_up_self, va_up_ne _ _ hi, g3, bb]
    · rw [IX' g 3 (by rw [kg]; decide), i2]; omega
    · rw [IX' g j (by rw [kg]; decide), e_S2]; exact zI_j hj
    · refine ⟨⟨KX a ha, NX a, fun _ j => PX a j ha, fun k15 => BX a (fun e => by rw [e, k5] at k15; omega)⟩, fun hw => ⟨KX a ha, NX a, fun j => ?_, fun j => PX a j ha, BX a (fun e => hw (Or.inr e)), fun _ => AX a, fun _ c _ => AX c⟩⟩
      rw [IX' a j ha, e_S2]
      exact zI_b (fun e => hw (Or.inl e))
    · rw [e_S16]; exact f4
    · rw [e_S16]; exact zNd_p S2
    · rw [e_S16]; exact f5
  · skip
    rw [h_b5] at e_v4
    obtain ⟨a1, a2, a3, a4⟩ := G _ _ e_v4.symm
    refine ⟨S2, b5, ⟨⟨by rw [bb]; exact e_v4.symm, fun i _ => by rw [bb]⟩, by rw [i2]; omega, fun j hj => by rw [e_S2]; exact zI_j hj, fr_m F2 (fun a _ e => Or.inl e), Or.inl e_v4.symm, ⟨a1, by rw [kk]; exact a2, by rw [pp]; exact a3, by rw [kk]; exact a4⟩, T2⟩, hf⟩
/-- a node more: the cells stay as they should -/
theorem gz_102 (hf : d_X1_grow_102 g x1 x2 x3 S = some o) : FrZ [(4, 0), (4, 1), (4, 2), (4, 3), (4, 4), (4, 5), (6, 1)] [] [] S o.2 := by
  have h147 : ∀ {S1 : ZS}, d_X1_grow_147 g S1 = some o → o.2 = S1 := fun hf => by
    unfold d_X1_grow_147 at hf
    obtain ⟨-, hf⟩ := m_chkE hf
    cases hf
    rfl
  unfold d_X1_grow_102 at hf
  obtain ⟨-, hf⟩ := m_chkE hf
  obtain ⟨-, hf⟩ := m_chkE hf
  obtain ⟨o1, h1, hf⟩ := m_calE hf
  obtain ⟨-, hf⟩ := m_chkE hf
  obtain ⟨-, hf⟩ := m_chkE hf
  obtain ⟨o2, h2, hf⟩ := m_calE hf
  obtain ⟨-, hf⟩ := m_chkE hf
  have f1 : FrZ [(4, 0), (4, 1), (4, 2), (4, 3), (4, 4), (4, 5), (6, 1)] [] [] S o1.2 := frz_t frz_0 (fz_X1_at h1) (by decide) (by decide) (by decide)
  have f2 := frz_t f1 (fz_X4_become h2) (by decide) (by decide) (by decide)
  rcases m_ifE hf with ⟨-, hf⟩ | ⟨-, hf⟩
  · obtain ⟨-, hf⟩ := m_chkE hf
    obtain ⟨o5, h5, hf⟩ := m_calE hf
    obtain ⟨-, hf⟩ := m_chkE hf
    obtain ⟨-, hf⟩ := m_chkE hf
    obtain ⟨k4, hf⟩ := m_chkE hf
    obtain ⟨S6, e6, hf⟩ := m_bndE hf
    have f5 := frz_t f2 (fz_X1_at h5) (by decide) (by decide) (by decide)
    rw [h147 hf]
    exact frz_I f5 k4 e6 (by decide)
  · obtain ⟨-, hf⟩ := m_chkE hf
    obtain ⟨o5, h5, hf⟩ := m_calE hf
    obtain ⟨-, hf⟩ := m_chkE hf
    obtain ⟨-, hf⟩ := m_chkE hf
    obtain ⟨k4, hf⟩ := m_chkE hf
    obtain ⟨S6, e6, hf⟩ := m_bndE hf
    have f5 := frz_t f2 (fz_X1_at h5) (by decide) (by decide) (by decide)
    rw [h147 hf]
    exact frz_I f5 k4 e6 (by decide)
theorem gz_24 : ∀ (k : Nat) (x3 x4 : Int32) (S : ZS), d_X1_grow_24 k g x1 x2 x3 x4 S = some o → ∃ y, d_X1_grow_64 g x1 x2 y S = some o := by
  intro k
  induction k with
  | zero => intro x3 x4 S hf; cases hf
  | succ k ih =>
    intro x3 x4 S hf
    have hf : d_X1_grow_24s (d_X1_grow_24 k) g x1 x2 x3 x4 S = some o := hf
    unfold d_X1_grow_24s at hf
    rcases m_ifE hf with ⟨-, hf⟩ | ⟨-, hf⟩
    · exact ⟨_, hf⟩
    · rcases m_ifE hf with ⟨-, hf⟩ | ⟨-, hf⟩
      · exact ⟨_, hf⟩
      · obtain ⟨-, hf⟩ := m_chkE hf
        obtain ⟨o1, h1, hf⟩ := m_calE hf
        obtain ⟨-, hf⟩ := m_chkE hf
        obtain ⟨-, hf⟩ := m_chkE hf
        have e1 := ro_X1_at h1
        rw [e1] at hf
        rcases m_ifE hf with ⟨-, hf⟩ | ⟨-, hf⟩
        · exact ⟨_, hf⟩
        · obtain ⟨-, hf⟩ := m_chkE hf
          obtain ⟨o2, h2, hf⟩ := m_calE hf
          obtain ⟨-, hf⟩ := m_chkE hf
          obtain ⟨-, hf⟩ := m_chkE hf
          obtain ⟨v3, -, hf⟩ := m_bndE hf
          have e2 := ro_X1_at h2
          rw [e2] at hf
          exact ih _ _ _ hf
theorem gz_x {SX : ZS} {c : Nat} (hx : CGx S) (hg : GG g g') (hX : GXn S SX g c n) : CGx SX := by
  have hgr := gg_g hg
  obtain ⟨⟨kg, p0, p1, p2, p4, p7⟩, ⟨k1, k2', k3, k4, k5, k6, k7⟩, -⟩ := fx_g hx.1 hgr
  obtain ⟨⟨b1, b2⟩, i3, iO, FX, old, ⟨c1, c2, c3, c4⟩, TX⟩ := hX
  have hxy : (g = 35 ∧ g' = 99) ∨ (g = 99 ∧ g' = 35) := hg
  have eB : ∀ z, 1 ≤ z → z ≤ 108 → z ≠ g → z ≠ g + 5 → zB SX z = zB S z := fun z z1 z2 z3 z4 => (fr_e FX (fx_l hx.1 z1 z2) (by omega)).2.2.2.2.1
  have G := cgx_g hx hgr
  have Gg : GM SX g := by
    refine ⟨fun i z hz => ?_, fun i z hz => ?_⟩
    · by_cases e : i = n + 1
      · rw [e, b1] at hz
        cases hz
        exact ⟨c1, c2, c3, c4⟩
      · rw [b2 i e] at hz
        obtain ⟨d1, d2, d3, d4⟩ := G.1 i z hz
        exact ⟨d1, (fr_k FX (by rw [d2]; decide)).trans d2, ((FX z (by rw [d2]; decide)).1.2.2.1 (by rw [d2]; rfl) 6).trans d3, (fr_k FX (by rw [d4]; decide)).trans d4⟩
    · rw [eB (g + 6) (by omega) (by omega) (by omega) (by omega)] at hz
      obtain ⟨d1, d2, d3, d4, d5, d6⟩ := G.2 i z hz
      have q := (FX z (by rw [d2]; decide)).1.2.2.1 (by rw [d2]; rfl)
      exact ⟨d1, (fr_k FX (by rw [d2]; decide)).trans d2, (q 0).trans d3, (q 1).trans d4, (fr_k FX (by rw [d5]; decide)).trans d5, (fr_k FX (by rw [d6]; decide)).trans d6⟩
  have Gg' : GM SX g' := gm_fr hx.1 (gg_g (gg_s hg)) (cgx_g hx (gg_g (gg_s hg))) FX (eB (g' + 5) (by omega) (by omega) (by omega) (by omega)) (eB (g' + 6) (by omega) (by omega) (by omega) (by omega))
  have TD : TDX SX := fun q q' hq => by
    have hq2 : (q = 35 ∧ q' = 99) ∨ (q = 99 ∧ q' = 35) := hq
    rw [eB (q + 6) (by omega) (by omega) (by omega) (by omega), eB (q' + 6) (by omega) (by omega) (by omega) (by omega)]
    exact hx.2.2.2 q q' hq
  refine ⟨fix_fr hx.1 FX, ?_, ?_, TD⟩
  · rcases hxy with ⟨e, e2⟩ | ⟨e, e2⟩
    · rw [e] at Gg; exact Gg
    · rw [e2] at Gg'; exact Gg'
  · rcases hxy with ⟨e, e2⟩ | ⟨e, e2⟩
    · rw [e2] at Gg'; exact Gg'
    · rw [e] at Gg; exact Gg
theorem sc_grow (hT : ZT S) (h : SC S) (hg : g = 35 ∨ g = 99) (hf : d_X1_grow g x1 x2 S = some o) : SC o.2 := by
  have hg : ∃ g', GG g g' := hg.elim (fun e => ⟨99, Or.inl ⟨e, rfl⟩⟩) (fun e => ⟨35, Or.inr ⟨e, rfl⟩⟩)
  obtain ⟨g', hg⟩ := hg
  have hf : d_X1_grow_0 g x1 x2 S = some o := hf
  unfold d_X1_grow_0 at hf
  obtain ⟨kg, hf⟩ := m_chkE hf
  rcases m_ifE hf with ⟨c1, hf⟩ | ⟨c1, hf⟩
  · replace c1 := ti_ltP (a := zI S 3 g) (b := (300 : Int32)) c1 rfl (show (300 : Int32).toInt = 300 from rfl)
    obtain ⟨-, hf⟩ := m_chkE hf
    obtain ⟨o1, h1, hf⟩ := m_calE hf
    obtain ⟨-, hf⟩ := m_chkE hf
    obtain ⟨-, hf⟩ := m_chkE hf
    have e1 := ro_X1_at h1
    rw [e1] at hf
    obtain ⟨y, hf⟩ := gz_24 _ _ _ _ hf
    have hc := cn_le hT kg
    obtain ⟨SX, c, hX, hf⟩ := gz_64 hT h.1 (gg_g hg) rfl (by omega) hf
    have sx : SC SX := sc_fr h (gz_x h.1 hg hX) hX.2.2.2.1
    exact sc_z sx hX.2.2.2.2.2.2 (gz_102 hf) (by decide)
  · cases hf
    exact h
/-- add's last steps -/
theorem sc_95 {r : (Nat × Int32) × ZS} (hT : ZT S) (h : SC S) (hf : d_X11_add_95 1 x1 x2 S = some r) : SC r.2 := by
  unfold d_X11_add_95 at hf
  obtain ⟨k1, hf⟩ := m_chkE hf
  obtain ⟨S1, e1, hf⟩ := m_bndE hf
  obtain ⟨-, hf⟩ := m_chkE hf
  obtain ⟨b2, -, hf⟩ := m_calE hf
  obtain ⟨-, hf⟩ := m_chkE hf
  obtain ⟨o3, h3, hf⟩ := m_calE hf
  obtain ⟨-, hf⟩ := m_chkE hf
  cases hf
  have f1 : FrZ [(0, 1), (0, 2), (0, 3), (0, 4), (0, 5), (0, 6), (11, 8)] [] [] S S1 := frz_I frz_0 k1 e1 (by decide)
  exact sc_z h hT (frz_t f1 (fz_X0_play h3) (by decide) (by decide) (by decide)) (by decide)
theorem sc_add {r : (Nat × Int32) × ZS} (hT : ZT S) (hZ : TZ S) (hcur : ∀ g', zP S 7 1 = some g' → (zI S 8 1).toInt ≤ (cn S g' : Int)) (h : SC S) (hf : d_X11_add 1 x1 S = some r) : SC r.2 := by
  have hf : d_X11_add_0 1 x1 S = some r := hf
  have h72 : ∀ {S1 : ZS}, SC S1 → d_X11_add_72 S1 = some r → SC r.2 := fun h hf => by
    unfold d_X11_add_72 at hf
    cases hf
    exact sc_q h
  unfold d_X11_add_0 at hf
  obtain ⟨kx, hf⟩ := m_chkE hf
  obtain ⟨b1, p1, hf⟩ := m_calE hf
  obtain ⟨-, hf⟩ := m_chkE hf
  obtain ⟨b2, p2, hf⟩ := m_calE hf
  obtain ⟨kb1, hf⟩ := m_chkE hf
  obtain ⟨⟨y3, S3⟩, h3, hf⟩ := m_calE hf
  obtain ⟨-, hf⟩ := m_chkE hf
  have k2 : zK S b2 = 0 := by
    obtain ⟨c, q, k⟩ := T_11_9 hT kx
    rw [p2] at q
    cases q
    exact k
  have T3 : ZT S3 := (ok_of (t_f_X7_isLegal (SZ := S) (x0 := b1) (x1 := b2) (x2 := x1) hT (a7_0 S) kb1 k2) h3).1
  have F3 := fz_X7_isLegal h3
  have s3 : SC S3 := sc_z h hT F3 (by decide)
  have Z3 : TZ S3 := tz_fr hT F3 (by decide) hZ
  dsimp only at hf
  rcases m_ifE hf with ⟨-, hf⟩ | ⟨-, hf⟩
  · cases hf
    exact sc_q s3
  · obtain ⟨kx3, hf⟩ := m_chkE hf
    obtain ⟨b4, p4, hf⟩ := m_calE hf
    obtain ⟨-, hf⟩ := m_chkE hf
    obtain ⟨kb4, hf⟩ := m_chkE hf
    obtain ⟨o5, h5, hf⟩ := m_calE hf
    obtain ⟨-, hf⟩ := m_chkE hf
    have e5 : o5.2 = S3 := by
      obtain ⟨y, q, -⟩ := roz (t_f_X1_childWith (x1 := zI S3 8 1) (x2 := x1) T3 kb4)
      rw [q] at h5
      cases h5
      rfl
    rw [e5] at hf
    obtain ⟨gq, gq', hg, -, p7⟩ := s3.2
    have gb : gq' = 35 ∨ gq' = 99 := gg_g (gg_s hg)
    rcases m_ifE hf with ⟨-, hf⟩ | ⟨-, hf⟩
    · obtain ⟨-, hf⟩ := m_chkE hf
      obtain ⟨b6, p6, hf⟩ := m_calE hf
      obtain ⟨-, hf⟩ := m_chkE hf
      rcases m_ifE hf with ⟨-, hf⟩ | ⟨-, hf⟩
      · exact h72 s3 hf
      · obtain ⟨-, hf⟩ := m_chkE hf
        obtain ⟨b7, p7', hf⟩ := m_calE hf
        obtain ⟨-, hf⟩ := m_chkE hf
        obtain ⟨kb7, hf⟩ := m_chkE hf
        obtain ⟨o8, h8, hf⟩ := m_calE hf
        obtain ⟨-, hf⟩ := m_chkE hf
        have e8 : o8.2 = S3 := by
          obtain ⟨y, q, -⟩ := roz (t_f_X1_deepOfNext (x1 := zI S3 8 1) T3 kb7)
          rw [q] at h8
          cases h8
          rfl
        rw [e8] at hf
        rcases m_ifE hf with ⟨-, hf⟩ | ⟨-, hf⟩
        · obtain ⟨-, hf⟩ := m_chkE hf
          obtain ⟨b9, p9, hf⟩ := m_calE hf
          obtain ⟨-, hf⟩ := m_chkE hf
          obtain ⟨kb9, hf⟩ := m_chkE hf
          obtain ⟨⟨y11, S12⟩, h11, hf9⟩ := m_cal2E hf
          rw [p7] at p9
          cases p9
          have ex := (F3 hT.2.2.2.2.1).2.2
          have kS1 : zK S 1 = 11 := kx
          have p70 : zP S 7 1 = some gq' := by rw [← (ex 1 (by rw [kS1]; decide)).2.2.2.1 7 (by rw [kS1]; decide)]; exact p7
          have kg0 : zK S gq' = 1 := by
            obtain ⟨c, q, k⟩ := T_11_7 hT kx
            rw [p70] at q
            cases q
            exact k
          have c3 : (zI S3 8 1).toInt ≤ (cn S3 gq' : Int) := by
            have q1 : zI S3 8 1 = zI S 8 1 := (ex 1 (by rw [kS1]; decide)).2.2.1 8 (by rw [kS1]; decide)
            have q2 : zI S3 3 gq' = zI S 3 gq' := (ex gq' (by rw [kg0]; decide)).2.2.1 3 (by rw [kg0]; decide)
            unfold cn
            rw [q1, q2]
            exact hcur gq' p70
          have T12 : ZT S12 := (ok_of (t_d_X1_grow (SZ := S3) (x0 := gq') (x1 := zI S3 8 1) (x2 := x1) T3 (rp_0 S3) kb9 Z3 (by rcases gb with e | e <;> rw [e] <;> decide) ⟨(J_11_8 T3 kx3).1, c3⟩) h11).1
          exact sc_95 T12 (sc_grow T3 s3 gb h11) hf9
        · exact h72 s3 hf
    · exact sc_95 T3 s3 hf
end GRZ
end
section
section RDS
variable {I I' I0 : Nat → Int32} {A A1 A2 A' A0 : Nat → Nat → Int32} {g k n : Nat} {o : Int32 × MS} {x1 x2 x3 x4 x5 x6 : Int32} {ch : Int → Int} {N p : Int} {st : PO} {L : List (List Int × List Int)}
theorem rdf_u {j i : Nat} {v : Int32} (h : RDf A A1 g) (e : A2 = va_up A1 j (upd (A1 j) i v)) (hj : 7 ≤ j) (hi : j ≤ 23 → i / sz j = g) : RDf A A2 g := by
  refine ⟨fun q hq => ?_, fun q h1 h2 k hk => ?_⟩
  · rw [e, va_up_ne _ _ (by omega)]; exact h.1 q hq
  · rw [e]
    by_cases ej : q = j
    · subst ej
      rw [va_up_self, upd_ne (fun e2 => hk (by rw [e2]; exact hi h2))]
      exact h.2 q h1 h2 k hk
    · rw [va_up_ne _ _ ej]; exact h.2 q h1 h2 k hk
theorem rdf_24 {j i : Nat} {v : Int32} (h : RDf A A1 g) (e : A2 = va_up A1 j (upd (A1 j) i v)) (hj : 24 ≤ j) : RDf A A2 g := rdf_u h e (by omega) (fun h => by omega)
theorem rdf_spx (hg : g ≤ 1) (h : SPx A A' (g : Int)) : RDf A A' g := by
  refine ⟨fun j hj => h.2.2 j (by omega) (by omega), fun j h1 h2 i hi => ?_⟩
  by_cases e16 : j = 16
  · subst e16
    have hi : i / 64 ≠ g := hi
    exact h.1 i (by omega)
  · by_cases e17 : j = 17
    · subst e17
      have hi : i / 5 ≠ g := hi
      exact h.2.1 i (by omega)
    · rw [h.2.2 j e16 e17]
theorem rdt_start (hg : g ≤ 1) (h1 : x1.toInt = (g : Int)) (hf : f_start x1 I A = some o) : RDf A o.2.2 g :=
  rdf_spx hg (v_start (m := mR A) (g := (g : Int)) (by omega) h1 rfl hf).2.2
theorem rdt_clear (hg : g ≤ 1) (h1 : x1.toInt = (g : Int)) (hf : f_clearGame x1 I A = some o) : RDf A o.2.2 g := by
  have hf : f_clearGame_0 x1 I A = some o := hf
  have xn : x1.toNatClampNeg = g := cl_n h1
  unfold f_clearGame_0 at hf
  obtain ⟨-, hf⟩ := m_chkE hf
  obtain ⟨A1, e1, hf⟩ := m_bndE hf
  obtain ⟨-, hf⟩ := m_chkE hf
  obtain ⟨A2, e2, hf⟩ := m_bndE hf
  obtain ⟨-, hf⟩ := m_chkE hf
  obtain ⟨A3, e3, hf⟩ := m_bndE hf
  obtain ⟨v4, e4, hf⟩ := m_bndE hf
  have t4 : v4.toInt = 301 * x1.toInt := ti_mul e4 (show (301 : Int32).toInt = 301 from rfl) rfl (by omega) (by omega)
  have i4 : v4.toNatClampNeg = 301 * g := cl_n (by omega)
  obtain ⟨⟨r5, Ic5, Ac5⟩, h_r5, hf⟩ := m_clE hf
  dsimp only at hf
  have h5 : f_clearNode_0 v4 I A3 = some (r5, Ic5, Ac5) := h_r5
  unfold f_clearNode_0 at h5
  obtain ⟨-, h5⟩ := m_chkE h5
  obtain ⟨B1, n1, h5⟩ := m_bndE h5
  obtain ⟨-, h5⟩ := m_chkE h5
  obtain ⟨B2, n2, h5⟩ := m_bndE h5
  obtain ⟨-, h5⟩ := m_chkE h5
  obtain ⟨B3, n3, h5⟩ := m_bndE h5
  obtain ⟨-, h5⟩ := m_chkE h5
  obtain ⟨B4, n4, h5⟩ := m_bndE h5
  have i5 := Option.some.inj h5
  have j1 : I = Ic5 := congrArg (fun z => z.2.1) i5
  have j2 : B4 = Ac5 := congrArg (fun z => z.2.2) i5
  rw [← j1, ← j2] at hf
  obtain ⟨v6, e6, hf⟩ := m_bndE hf
  have t6 : v6.toInt = 301 * x1.toInt := ti_mul e6 (show (301 : Int32).toInt = 301 from rfl) rfl (by omega) (by omega)
  have i6 : v6.toNatClampNeg = 301 * g := cl_n (by omega)
  obtain ⟨-, hf⟩ := m_chkE hf
  obtain ⟨A7, e7, hf⟩ := m_bndE hf
  obtain ⟨v8, e8, hf⟩ := m_bndE hf
  have t8 : v8.toInt = 301 * x1.toInt := ti_mul e8 (show (301 : Int32).toInt = 301 from rfl) rfl (by omega) (by omega)
  have i8 : v8.toNatClampNeg = 301 * g := cl_n (by omega)
  obtain ⟨-, hf⟩ := m_chkE hf
  obtain ⟨A9, e9, hf⟩ := m_bndE hf
  rw [xn] at e1 e2 e3
  rw [i4] at n1 n2 n3 n4
  rw [i6] at e7
  rw [i8] at e9
  cases hf
  have d1 : g / 1 = g := Nat.div_one g
  have d3 : 301 * g / 301 = g := by omega
  exact rdf_u (rdf_u (rdf_u (rdf_u (rdf_u (rdf_u (rdf_u (rdf_u (rdf_u rdf_0 e1 (by decide) (fun _ => d1)) e2 (by decide) (fun _ => d1)) e3 (by decide) (fun _ => d1)) n1 (by decide) (fun _ => d3)) n2 (by decide) (fun _ => d3)) n3 (by decide) (fun _ => d3)) n4 (by decide) (fun _ => d3)) e7 (by decide) (fun _ => d3)) e9 (by decide) (fun _ => d3)
theorem rdt_us23 (hg : g ≤ 1) (h1 : x1.toInt = (g : Int)) : ∀ (n : Nat) (x2 : Int32) (I : Nat → Int32) (A : Nat → Nat → Int32), f_usual_23 n x1 x2 I A = some o → RDf A o.2.2 g := by
  intro n
  induction n with
  | zero => intro x2 I A hf; cases hf
  | succ n ih =>
    intro x2 I A hf
    have hf : f_usual_23s (f_usual_23 n) x1 x2 I A = some o := hf
    have s83 : ∀ t : Int32, f_usual_83 (f_usual_23 n) x1 x2 t I A = some o → RDf A o.2.2 g := fun t hf => by
      unfold f_usual_83 at hf
      obtain ⟨-, hf⟩ := m_chkE hf
      obtain ⟨A1, e1, hf⟩ := m_bndE hf
      obtain ⟨v2, -, hf⟩ := m_bndE hf
      obtain ⟨-, hf⟩ := m_chkE hf
      obtain ⟨A3, e3, hf⟩ := m_bndE hf
      obtain ⟨v4, -, hf⟩ := m_bndE hf
      obtain ⟨-, hf⟩ := m_chkE hf
      obtain ⟨A5, e5, hf⟩ := m_bndE hf
      obtain ⟨v6, -, hf⟩ := m_bndE hf
      obtain ⟨v7, -, hf⟩ := m_bndE hf
      obtain ⟨-, hf⟩ := m_chkE hf
      obtain ⟨A8, e8, hf⟩ := m_bndE hf
      obtain ⟨v9, -, hf⟩ := m_bndE hf
      exact rdf_t (rdf_24 (rdf_24 (rdf_24 (rdf_24 rdf_0 e1 (by decide)) e3 (by decide)) e5 (by decide)) e8 (by decide)) (ih _ _ _ hf)
    unfold f_usual_23s at hf
    rcases m_ifE hf with ⟨-, hf⟩ | ⟨-, hf⟩
    · obtain ⟨I1, -, hf⟩ := m_bndE hf
      obtain ⟨I2, -, hf⟩ := m_bndE hf
      obtain ⟨I3, -, hf⟩ := m_bndE hf
      obtain ⟨I4, -, hf⟩ := m_bndE hf
      obtain ⟨I5, -, hf⟩ := m_bndE hf
      obtain ⟨⟨r6, Ic6, Ac6⟩, h_r6, hf⟩ := m_clE hf
      have d := rdt_start hg h1 h_r6
      cases hf
      exact d
    · rcases m_ifE hf with ⟨-, hf⟩ | ⟨-, hf⟩
      · exact s83 _ hf
      · rcases m_ifE hf with ⟨-, hf⟩ | ⟨-, hf⟩
        · exact s83 _ hf
        · rcases m_ifE hf with ⟨-, hf⟩ | ⟨-, hf⟩
          · exact s83 _ hf
          · rcases m_ifE hf with ⟨-, hf⟩ | ⟨-, hf⟩
            · exact s83 _ hf
            · rcases m_ifE hf with ⟨-, hf⟩ | ⟨-, hf⟩
              · exact s83 _ hf
              · rcases m_ifE hf with ⟨-, hf⟩ | ⟨-, hf⟩
                · exact s83 _ hf
                · rcases m_ifE hf with ⟨-, hf⟩ | ⟨-, hf⟩
                  · exact s83 _ hf
                  · exact s83 _ hf
theorem rdt_usual (hg : g ≤ 1) (h1 : x1.toInt = (g : Int)) (hf : f_usual x1 I A = some o) : RDf A o.2.2 g := by
  have hf : f_usual_2 mFuel x1 0 I A = some o := hf
  have key : ∀ (n : Nat) (x2 : Int32) (A : Nat → Nat → Int32), f_usual_2 n x1 x2 I A = some o → RDf A o.2.2 g := by
    intro n
    induction n with
    | zero => intro x2 A hf; cases hf
    | succ n ih =>
      intro x2 A hf
      have hf : f_usual_2s (f_usual_2 n) x1 x2 I A = some o := hf
      unfold f_usual_2s at hf
      rcases m_ifE hf with ⟨-, hf⟩ | ⟨-, hf⟩
      · exact rdt_us23 hg h1 _ _ _ _ hf
      · obtain ⟨-, hf⟩ := m_chkE hf
        obtain ⟨A1, e1, hf⟩ := m_bndE hf
        obtain ⟨v2, -, hf⟩ := m_bndE hf
        exact rdf_t (rdf_24 rdf_0 e1 (by decide)) (ih _ _ hf)
  exact key _ _ _ hf
theorem rdt_457 (hg : g ≤ 1) (h1 : x1.toInt = (g : Int)) (hf : f_readTag_457 x1 I A = some o) : RDf A o.2.2 g := by
  have xn : x1.toNatClampNeg = g := cl_n h1
  unfold f_readTag_457 at hf
  obtain ⟨-, hf⟩ := m_chkE hf
  obtain ⟨v1, -, hf⟩ := m_bndE hf
  obtain ⟨v2, -, hf⟩ := m_bndE hf
  obtain ⟨-, hf⟩ := m_chkE hf
  obtain ⟨A3, e3, hf⟩ := m_bndE hf
  cases hf
  rw [xn] at e3
  exact rdf_u rdf_0 e3 (by decide) (fun _ => Nat.div_one g)
theorem rdt_ft {c : Int32} (hf : (m_cl (f_fault c x2 I A) (fun r1 Ic1 Ac1 => some (r1, (Ic1, Ac1)))) = some o) : RDf A o.2.2 g := by
  obtain ⟨r1, -, hf⟩ := m_clR hf (fun _ h => rro_fault h)
  cases hf
  exact rdf_0
theorem bl_A (hf : f_blanks I A = some o) : o.2.2 = A := by
  have f := fw_blanks hf
  funext j
  exact f.2 j (fun h => by cases h)
/-- a tag's value: only game g's tables change -/
theorem rdt_175 (hg : g ≤ 1) (h1 : x1.toInt = (g : Int)) (h3 : x3.toInt = (k : Int)) (hk : k ≤ 8) (h4 : x4 = 0 → k < 8) : ∀ (n : Nat) (x6 : Int32) (I : Nat → Int32) (A : Nat → Nat → Int32), 0 ≤ x6.toInt → x6.toInt + (n : Int) ≤ 200000 → f_readTag_175 n x1 x2 x3 x4 x5 x6 I A = some o → RDf A o.2.2 g := by
  intro n
  induction n with
  | zero => intro x6 I A _ _ hf; cases hf
  | succ n ih =>
    intro x6 I A h6 h6n hf
    have hf : f_readTag_175s (f_readTag_175 n) x1 x2 x3 x4 x5 x6 I A = some o := hf
    have s293 : ∀ {I : Nat → Int32} {A : Nat → Nat → Int32}, f_readTag_293 (f_readTag_175 n) x1 x2 x3 x4 x5 x6 I A = some o → RDf A o.2.2 g := fun {I A} hf => by
      unfold f_readTag_293 at hf
      obtain ⟨v1, e1, hf⟩ := m_bndE hf
      obtain ⟨v2, -, hf⟩ := m_bndE hf
      obtain ⟨I3, -, hf⟩ := m_bndE hf
      have t1 : v1.toInt = x6.toInt + 1 := ti_add e1 rfl (show (1 : Int32).toInt = 1 from rfl) (by omega) (by omega)
      exact ih v1 I3 A (by omega) (by omega) hf
    have s230 : ∀ {I : Nat → Int32} {A : Nat → Nat → Int32}, f_readTag_230 (f_readTag_175 n) x1 x2 x3 x4 x5 x6 I A = some o → RDf A o.2.2 g := fun {I A} hf => by
      unfold f_readTag_230 at hf
      rcases m_ifE hf with ⟨-, hf⟩ | ⟨-, hf⟩
      · unfold f_readTag_250 at hf
        exact rdt_ft hf
      · obtain ⟨r1, -, hf⟩ := m_clR hf (fun _ h => rro_look h)
        rcases m_ifE hf with ⟨-, hf⟩ | ⟨-, hf⟩
        · unfold f_readTag_250 at hf
          exact rdt_ft hf
        · rcases m_ifE hf with ⟨-, hf⟩ | ⟨c1, hf⟩
          · exact s293 hf
          · replace c1 := ti_leN (a := (96 : Int32)) (b := x6) c1 (show (96 : Int32).toInt = 96 from rfl) rfl
            rcases m_ifE hf with ⟨c2, hf⟩ | ⟨-, hf⟩
            · obtain ⟨v2, e2, hf⟩ := m_bndE hf
              obtain ⟨v3, e3, hf⟩ := m_bndE hf
              obtain ⟨v4, e4, hf⟩ := m_bndE hf
              obtain ⟨v5, e5, hf⟩ := m_bndE hf
              obtain ⟨r6, -, hf⟩ := m_clR hf (fun _ h => rro_look h)
              obtain ⟨-, hf⟩ := m_chkE hf
              obtain ⟨A7, e7, hf⟩ := m_bndE hf
              have t2 : v2.toInt = 768 * x1.toInt := ti_mul e2 (show (768 : Int32).toInt = 768 from rfl) rfl (by omega) (by omega)
              have t3 : v3.toInt = 96 * x3.toInt := ti_mul e3 (show (96 : Int32).toInt = 96 from rfl) rfl (by omega) (by omega)
              have t4 : v4.toInt = v2.toInt + v3.toInt := ti_add e4 rfl rfl (by omega) (by omega)
              have t5 : v5.toInt = v4.toInt + x6.toInt := ti_add e5 rfl rfl (by omega) (by omega)
              have k8 := h4 c2
              have i5 : v5.toNatClampNeg = 768 * g + 96 * k + x6.toInt.toNat := cl_n (by omega)
              rw [i5] at e7
              exact rdf_t (rdf_u rdf_0 e7 (by decide) (fun _ => by rw [show sz 22 = 768 from rfl]; omega)) (s293 hf)
            · exact s293 hf
    unfold f_readTag_175s at hf
    obtain ⟨r1, -, hf⟩ := m_clR hf (fun _ h => rro_look h)
    rcases m_ifE hf with ⟨-, hf⟩ | ⟨-, hf⟩
    · obtain ⟨v2, -, hf⟩ := m_bndE hf
      obtain ⟨I3, -, hf⟩ := m_bndE hf
      obtain ⟨⟨r4, Ic4, Ac4⟩, h_r4, hf⟩ := m_clE hf
      dsimp only at hf
      have b4 : Ac4 = A := bl_A h_r4
      rw [b4] at hf
      obtain ⟨r5, -, hf⟩ := m_clR hf (fun _ h => rro_look h)
      rcases m_ifE hf with ⟨-, hf⟩ | ⟨-, hf⟩
      · obtain ⟨v6, -, hf⟩ := m_bndE hf
        obtain ⟨I7, -, hf⟩ := m_bndE hf
        have s370 : ∀ {I : Nat → Int32} {A : Nat → Nat → Int32}, f_readTag_370 x2 I A = some o → RDf A o.2.2 g := fun {I A} hf => by
          unfold f_readTag_370 at hf
          exact rdt_ft hf
        rcases m_ifE hf with ⟨c4, hf⟩ | ⟨-, hf⟩
        · have k8 := h4 c4
          rcases m_ifE hf with ⟨-, hf⟩ | ⟨-, hf⟩
          · exact s370 hf
          · rcases m_ifE hf with ⟨-, hf⟩ | ⟨-, hf⟩
            · obtain ⟨v8, e8, hf⟩ := m_bndE hf
              obtain ⟨v9, e9, hf⟩ := m_bndE hf
              obtain ⟨-, hf⟩ := m_chkE hf
              obtain ⟨A10, e10, hf⟩ := m_bndE hf
              obtain ⟨v11, e11, hf⟩ := m_bndE hf
              obtain ⟨v12, e12, hf⟩ := m_bndE hf
              obtain ⟨-, hf⟩ := m_chkE hf
              obtain ⟨A13, e13, hf⟩ := m_bndE hf
              have t8 : v8.toInt = 8 * x1.toInt := ti_mul e8 (show (8 : Int32).toInt = 8 from rfl) rfl (by omega) (by omega)
              have t9 : v9.toInt = v8.toInt + x3.toInt := ti_add e9 rfl rfl (by omega) (by omega)
              have t11 : v11.toInt = 8 * x1.toInt := ti_mul e11 (show (8 : Int32).toInt = 8 from rfl) rfl (by omega) (by omega)
              have t12 : v12.toInt = v11.toInt + x3.toInt := ti_add e12 rfl rfl (by omega) (by omega)
              have i9 : v9.toNatClampNeg = 8 * g + k := cl_n (by omega)
              have i12 : v12.toNatClampNeg = 8 * g + k := cl_n (by omega)
              rw [i9] at e10
              rw [i12] at e13
              have d8 : (8 * g + k) / 8 = g := by omega
              have R : RDf A A13 g := rdf_u (rdf_u rdf_0 e10 (by decide) (fun _ => d8)) e13 (by decide) (fun _ => d8)
              obtain ⟨r14, -, hf⟩ := m_clR hf (fun _ h => rro_isNameThere h)
              rcases m_ifE hf with ⟨-, hf⟩ | ⟨-, hf⟩
              · obtain ⟨r15, -, hf⟩ := m_clR hf (fun _ h => rro_isTag h)
                rcases m_ifE hf with ⟨-, hf⟩ | ⟨-, hf⟩
                · exact rdf_t R (rdt_457 hg h1 hf)
                · obtain ⟨v16, -, hf⟩ := m_bndE hf
                  obtain ⟨v17, -, hf⟩ := m_bndE hf
                  obtain ⟨v18, -, hf⟩ := m_bndE hf
                  obtain ⟨⟨r19, Ic19, Ac19⟩, h_r19, hf⟩ := m_clE hf
                  dsimp only at hf
                  have fp := fw_readPosition h_r19
                  dsimp only at fp
                  have R2 : RDf A Ac19 g := rdf_t R (rdf_hi (fun j hj => fp.2 j (by simp only [List.mem_cons, List.not_mem_nil, or_false]; omega)))
                  rcases m_ifE hf with ⟨-, hf⟩ | ⟨-, hf⟩
                  · exact rdf_t R2 (rdt_ft hf)
                  · obtain ⟨⟨r20, Ic20, Ac20⟩, h_r20, hf⟩ := m_clE hf
                    dsimp only at hf
                    exact rdf_t (rdf_t R2 (rdt_start hg h1 h_r20)) (rdt_457 hg h1 hf)
              · exact rdf_t R (rdt_ft hf)
            · exact s370 hf
        · exact s370 hf
      · exact rdt_ft hf
    · obtain ⟨r24, -, hf⟩ := m_clR hf (fun _ h => rro_look h)
      rcases m_ifE hf with ⟨-, hf⟩ | ⟨-, hf⟩
      · obtain ⟨v25, -, hf⟩ := m_bndE hf
        obtain ⟨I26, -, hf⟩ := m_bndE hf
        obtain ⟨r27, -, hf⟩ := m_clR hf (fun _ h => rro_look h)
        rcases m_ifE hf with ⟨-, hf⟩ | ⟨-, hf⟩
        · exact s230 hf
        · obtain ⟨r28, -, hf⟩ := m_clR hf (fun _ h => rro_look h)
          rcases m_ifE hf with ⟨-, hf⟩ | ⟨-, hf⟩
          · exact s230 hf
          · exact rdt_ft hf
      · exact s230 hf
/-- a tag's name -/
theorem rdt_71 (hg : g ≤ 1) (h1 : x1.toInt = (g : Int)) (h3 : x3.toInt = (k : Int)) (hk : k ≤ 8) (h4 : x4 = 0 → k < 8) : ∀ (n : Nat) (x5 : Int32) (I : Nat → Int32) (A : Nat → Nat → Int32), 0 ≤ x5.toInt → x5.toInt + (n : Int) ≤ 200000 → f_readTag_71 n x1 x2 x3 x4 x5 I A = some o → RDf A o.2.2 g := by
  intro n
  induction n with
  | zero => intro x5 I A _ _ hf; cases hf
  | succ n ih =>
    intro x5 I A h5 h5n hf
    have hf : f_readTag_71s (f_readTag_71 n) x1 x2 x3 x4 x5 I A = some o := hf
    have s124 : ∀ {I : Nat → Int32} {A : Nat → Nat → Int32}, f_readTag_124 (f_readTag_71 n) x1 x2 x3 x4 x5 I A = some o → RDf A o.2.2 g := fun {I A} hf => by
      unfold f_readTag_124 at hf
      obtain ⟨v1, e1, hf⟩ := m_bndE hf
      obtain ⟨v2, -, hf⟩ := m_bndE hf
      obtain ⟨I3, -, hf⟩ := m_bndE hf
      have t1 : v1.toInt = x5.toInt + 1 := ti_add e1 rfl (show (1 : Int32).toInt = 1 from rfl) (by omega) (by omega)
      exact ih v1 I3 A (by omega) (by omega) hf
    have s91 : ∀ {I : Nat → Int32} {A : Nat → Nat → Int32}, f_readTag_91 (f_readTag_71 n) x1 x2 x3 x4 x5 I A = some o → RDf A o.2.2 g := fun {I A} hf => by
      unfold f_readTag_91 at hf
      rcases m_ifE hf with ⟨-, hf⟩ | ⟨c1, hf⟩
      · exact s124 hf
      · replace c1 := ti_leN (a := (12 : Int32)) (b := x5) c1 (show (12 : Int32).toInt = 12 from rfl) rfl
        rcases m_ifE hf with ⟨c2, hf⟩ | ⟨-, hf⟩
        · obtain ⟨v1, e1, hf⟩ := m_bndE hf
          obtain ⟨v2, e2, hf⟩ := m_bndE hf
          obtain ⟨v3, e3, hf⟩ := m_bndE hf
          obtain ⟨v4, e4, hf⟩ := m_bndE hf
          obtain ⟨r5, -, hf⟩ := m_clR hf (fun _ h => rro_look h)
          obtain ⟨-, hf⟩ := m_chkE hf
          obtain ⟨A6, e6, hf⟩ := m_bndE hf
          have t1 : v1.toInt = 96 * x1.toInt := ti_mul e1 (show (96 : Int32).toInt = 96 from rfl) rfl (by omega) (by omega)
          have t2 : v2.toInt = 12 * x3.toInt := ti_mul e2 (show (12 : Int32).toInt = 12 from rfl) rfl (by omega) (by omega)
          have t3 : v3.toInt = v1.toInt + v2.toInt := ti_add e3 rfl rfl (by omega) (by omega)
          have t4 : v4.toInt = v3.toInt + x5.toInt := ti_add e4 rfl rfl (by omega) (by omega)
          have k8 := h4 c2
          have i4 : v4.toNatClampNeg = 96 * g + 12 * k + x5.toInt.toNat := cl_n (by omega)
          rw [i4] at e6
          exact rdf_t (rdf_u rdf_0 e6 (by decide) (fun _ => by rw [show sz 20 = 96 from rfl]; omega)) (s124 hf)
        · exact s124 hf
    unfold f_readTag_71s at hf
    obtain ⟨r1, -, hf⟩ := m_clR hf (fun _ h => rro_look h)
    obtain ⟨r2, -, hf⟩ := m_clR hf (fun _ h => rro_isLetter h)
    rcases m_ifE hf with ⟨-, hf⟩ | ⟨-, hf⟩
    · obtain ⟨r3, -, hf⟩ := m_clR hf (fun _ h => rro_look h)
      obtain ⟨r4, -, hf⟩ := m_clR hf (fun _ h => rro_isDigit h)
      rcases m_ifE hf with ⟨-, hf⟩ | ⟨-, hf⟩
      · obtain ⟨⟨r5, Ic5, Ac5⟩, h_r5, hf⟩ := m_clE hf
        dsimp only at hf
        have b5 : Ac5 = A := bl_A h_r5
        rw [b5] at hf
        obtain ⟨r6, -, hf⟩ := m_clR hf (fun _ h => rro_look h)
        rcases m_ifE hf with ⟨-, hf⟩ | ⟨-, hf⟩
        · obtain ⟨v7, -, hf⟩ := m_bndE hf
          obtain ⟨I8, -, hf⟩ := m_bndE hf
          exact rdt_175 hg h1 h3 hk h4 mFuel 0 _ _ (by decide) (by decide) hf
        · exact rdt_ft hf
      · exact s91 hf
    · exact s91 hf
theorem rdt_tag (hg : g ≤ 1) (hA : TK A) (h1 : x1.toInt = (g : Int)) (hf : f_readTag x1 I A = some o) : RDf A o.2.2 g := by
  have hf : f_readTag_0 x1 I A = some o := hf
  have s23 : ∀ {x2 x3 t0 : Int32} {k : Nat}, x3.toInt = (k : Int) → k ≤ 8 → (t0 = 0 → k < 8) → f_readTag_23 x1 x2 x3 t0 I A = some o → RDf A o.2.2 g := fun {x2 x3 t0 k} h3 hk h4 hf => by
    unfold f_readTag_23 at hf
    obtain ⟨v1, -, hf⟩ := m_bndE hf
    obtain ⟨I2, -, hf⟩ := m_bndE hf
    obtain ⟨⟨r3, Ic3, Ac3⟩, h_r3, hf⟩ := m_clE hf
    dsimp only at hf
    have b3 : Ac3 = A := bl_A h_r3
    rw [b3] at hf
    obtain ⟨r4, -, hf⟩ := m_clR hf (fun _ h => rro_look h)
    obtain ⟨r5, -, hf⟩ := m_clR hf (fun _ h => rro_isLetter h)
    rcases m_ifE hf with ⟨-, hf⟩ | ⟨-, hf⟩
    · obtain ⟨r6, -, hf⟩ := m_clR hf (fun _ h => rro_look h)
      obtain ⟨r7, -, hf⟩ := m_clR hf (fun _ h => rro_isDigit h)
      rcases m_ifE hf with ⟨-, hf⟩ | ⟨-, hf⟩
      · exact rdt_ft hf
      · exact rdt_71 hg h1 h3 hk h4 mFuel 0 _ _ (by decide) (by decide) hf
    · exact rdt_71 hg h1 h3 hk h4 mFuel 0 _ _ (by decide) (by decide) hf
  unfold f_readTag_0 at hf
  obtain ⟨-, hf⟩ := m_chkE hf
  obtain ⟨v1, e1, hf⟩ := m_bndE hf
  have b : 0 ≤ v1.toInt ∧ v1.toInt ≤ 8 := by rw [e1]; exact hA 18 x1.toNatClampNeg
  have h3 : v1.toInt = ((v1.toInt.toNat : Nat) : Int) := by omega
  rcases m_ifE hf with ⟨-, hf⟩ | ⟨c, hf⟩
  · exact s23 h3 (by omega) (fun e => by cases e) hf
  · replace c := ti_eqN (a := v1) (b := (8 : Int32)) c rfl (show (8 : Int32).toInt = 8 from rfl)
    exact s23 h3 (by omega) (fun _ => by omega) hf
theorem rdt_74 (hg : g ≤ 1) (h1 : x1.toInt = (g : Int)) : ∀ (n : Nat) (x4 : Int32) (I : Nat → Int32) (A : Nat → Nat → Int32), f_readGame_74 n x1 x3 x4 I A = some o → RDf A o.2.2 g := by
  have xn : x1.toNatClampNeg = g := cl_n h1
  intro n
  induction n with
  | zero => intro x4 I A hf; cases hf
  | succ n ih =>
    intro x4 I A hf
    have hf : f_readGame_74s (f_readGame_74 n) x1 x3 x4 I A = some o := hf
    have s117 : ∀ {I : Nat → Int32} {A : Nat → Nat → Int32}, f_readGame_117 (f_readGame_74 n) x1 x3 x4 I A = some o → RDf A o.2.2 g := fun {I A} hf => by
      unfold f_readGame_117 at hf
      obtain ⟨v1, -, hf⟩ := m_bndE hf
      exact ih _ _ _ hf
    have s154 : ∀ {t0 t1 : Int32} {I : Nat → Int32} {A : Nat → Nat → Int32}, f_readGame_154 t0 t1 I A = some o → RDf A o.2.2 g := fun {t0 t1 I A} hf => by
      unfold f_readGame_154 at hf
      obtain ⟨v1, -, hf⟩ := m_bndE hf
      obtain ⟨I2, -, hf⟩ := m_bndE hf
      obtain ⟨⟨r3, Ic3, Ac3⟩, h_r3, hf⟩ := m_clE hf
      dsimp only at hf
      have b3 : Ac3 = A := bl_A h_r3
      rw [b3] at hf
      rcases m_ifE hf with ⟨-, hf⟩ | ⟨-, hf⟩
      · unfold f_readGame_185 at hf
        cases hf
        exact rdf_0
      · obtain ⟨r4, -, hf⟩ := m_clR hf (fun _ h => rro_fault h)
        unfold f_readGame_185 at hf
        cases hf
        exact rdf_0
    unfold f_readGame_74s at hf
    obtain ⟨-, hf⟩ := m_chkE hf
    obtain ⟨v1, -, hf⟩ := m_bndE hf
    rcases m_ifE hf with ⟨-, hf⟩ | ⟨-, hf⟩
    · obtain ⟨-, hf⟩ := m_chkE hf
      obtain ⟨A2, e2, hf⟩ := m_bndE hf
      rw [xn] at e2
      have R : RDf A A2 g := rdf_u rdf_0 e2 (by decide) (fun _ => Nat.div_one g)
      rcases m_ifE hf with ⟨-, hf⟩ | ⟨-, hf⟩
      · exact rdf_t R (s154 hf)
      · rcases m_ifE hf with ⟨-, hf⟩ | ⟨-, hf⟩
        · exact rdf_t R (s154 hf)
        · exact rdf_t R (s154 hf)
    · obtain ⟨r3, -, hf⟩ := m_clR hf (fun _ h => rro_isTag h)
      rcases m_ifE hf with ⟨-, hf⟩ | ⟨-, hf⟩
      · exact s117 hf
      · obtain ⟨r4, -, hf⟩ := m_clR hf (fun _ h => rro_isResultValue h)
        rcases m_ifE hf with ⟨-, hf⟩ | ⟨-, hf⟩
        · exact rdt_ft hf
        · exact s117 hf
theorem rdt_59 (hg : g ≤ 1) (h1 : x1.toInt = (g : Int)) (hf : f_readGame_59 x1 x2 I A = some o) : RDf A o.2.2 g := by
  unfold f_readGame_59 at hf
  rcases m_ifE hf with ⟨-, hf⟩ | ⟨-, hf⟩
  · obtain ⟨⟨r1, Ic1, Ac1⟩, h_r1, hf⟩ := m_clE hf
    dsimp only at hf
    have f := fw_resultHere h_r1
    dsimp only at f
    exact rdf_t (rdf_hi (fun j _ => f.2 j (fun h => by cases h))) (rdt_74 hg h1 _ _ _ _ hf)
  · cases hf
    exact rdf_0
theorem rs_d (h : RSt I0 I A0 A g ch N p st T00) : RDf A0 A g := h.2.2.2.2.2.2.1
/-- the moves of a game -/
theorem rdt_RGT (h : HRt I A g ch N p st L T00) (h1 : x1.toInt = (g : Int)) (hf : RGT x1 I A = some o) : RDf A o.2.2 g := by
  have hg := h.1.2.2.1
  unfold RGT at hf
  obtain ⟨⟨r4, Ic4, Ac4⟩, h_r4, hf⟩ := m_clE hf
  dsimp only at hf
  rcases rs_rk (rs_hr h) h1 (x2 := 0) (k := 0) rfl (Nat.zero_le _) h_r4 with ⟨e, w, c1, c2, c3⟩ | ⟨c1, c2, c3⟩
  · dsimp only at c2 c3
    have D4 : RDf A Ac4 g := c3.2.2.2.2.2.2.1
    rcases m_ifE hf with ⟨-, hf⟩ | ⟨-, hf⟩
    · obtain ⟨⟨r5, Ic5, Ac5⟩, h_r5, hf⟩ := m_clE hf
      dsimp only at hf
      have h5 : fr_readLine 8 x1 0 0 Ic4 Ac4 = some (r5, Ic5, Ac5) := h_r5
      have hl := rl_all h1 8 0 0 Ic4 Ac4 0 [] e (rkT T00 0 w) _ rfl (Nat.zero_le _) rfl (by decide) c3 h5
      have D5 : RDf A Ac5 g := by
        rcases hl with ⟨d1, d2, d3⟩ | ⟨d1, e2, T', d2, d3, d4⟩
        · exact d2.1
        · exact d2.2.2.2.2.2.2.1
      exact rdf_t D5 (rdt_59 hg h1 hf)
    · exact rdf_t D4 (rdt_59 hg h1 hf)
  · dsimp only at c2 c3
    have D4 : RDf A Ac4 g := c3.1
    rcases m_ifE hf with ⟨k1, hf⟩ | ⟨-, hf⟩
    · replace k1 := ti_leP (a := r4) (b := (0 : Int32)) k1 rfl (show (0 : Int32).toInt = 0 from rfl)
      omega
    · exact rdf_t D4 (rdt_59 hg h1 hf)
theorem rdt_9 (h1 : x1.toInt = (g : Int)) : ∀ (n : Nat) (I : Nat → Int32) (A : Nat → Nat → Int32) (p : Int) (L : List (List Int × List Int)) (st : PO), HRt I A g ch N p st L T00 → f_readGame_9 n x1 I A = some o → RDf A o.2.2 g := by
  intro n
  induction n with
  | zero => intro I A p L st _ hf; cases hf
  | succ n ih =>
    intro I A p L st h hf
    have hf : f_readGame_9s (f_readGame_9 n) x1 I A = some o := hf
    have hg := h.1.2.2.1
    unfold f_readGame_9s at hf
    obtain ⟨r1, h_r1, hf⟩ := m_clR hf (fun _ h => rro_look h)
    have q1 := rv_lk h.1.1 h_r1
    dsimp only at q1
    rcases m_ifE hf with ⟨c1, hf⟩ | ⟨c1, hf⟩
    · replace c1 := ti_eqP (a := r1) (b := (91 : Int32)) c1 rfl (show (91 : Int32).toInt = 91 from rfl)
      obtain ⟨⟨r4, Ic4, Ac4⟩, h_r4, hf⟩ := m_clE hf
      dsimp only at hf
      have D4 : RDf A Ac4 g := rdt_tag hg h.1.1.1.2 h1 h_r4
      rcases v_tag1 h (by omega) h1 h_r4 with ⟨r, a1, a2, a3⟩ | ⟨a1, a2⟩
      · dsimp only at a2 a3
        rcases m_ifE hf with ⟨-, hf⟩ | ⟨c2, hf⟩
        · obtain ⟨⟨r5, Ic5, Ac5⟩, h_r5, hf⟩ := m_clE hf
          dsimp only at hf
          obtain ⟨⟨rv, hp, -, h29⟩, tg, sp, tr, pg⟩ := a3
          obtain ⟨b1, b2, b3, b4, b5⟩ := rv_bl rv h_r5
          dsimp only at b2 b3 b4
          rw [b3] at hf b2
          exact rdf_t D4 (ih Ic5 Ac4 _ _ _ ⟨⟨b2, by omega, hg, by rw [b4 29 (by decide)]; exact h29⟩, tg, sp, tr, pg⟩ hf)
        · cases hf
          exact D4
      · dsimp only at a2
        rcases m_ifE hf with ⟨c2, hf⟩ | ⟨c2, hf⟩
        · replace c2 := ti_leP (a := r4) (b := (0 : Int32)) c2 rfl (show (0 : Int32).toInt = 0 from rfl)
          omega
        · cases hf
          exact D4
    · exact rdt_RGT h h1 hf
/-- whatever read answers, the other game's tables stay -/
theorem rdt_read (hI : TJ I) (hA : TK A) (hc : txR I A = ch) (hn : (I 1).toInt = N) (hN : 0 ≤ N ∧ N ≤ 2000) (hcb : ∀ i, 0 ≤ ch i ∧ ch i ≤ 127) (h5 : (I 5).toInt = 1 - (g : Int)) (hg : g ≤ 1) (hf : f_read I A = some o) : RDf A o.2.2 g := by
  have hf : f_read_0 I A = some o := hf
  unfold f_read_0 at hf
  obtain ⟨I1, e1, hf⟩ := m_bndE hf
  have hI1 : TJ I1 := by rw [e1]; exact tj_u hI (show (0 : Int) ≤ (0 : Int32).toInt by decide) (show (0 : Int32).toInt ≤ (2 : Int) by decide)
  have j5 : I1 5 = I 5 := by rw [e1, upd_ne (by decide)]
  obtain ⟨v2, e2, hf⟩ := m_bndE hf
  have t2 : v2.toInt = 1 - (I1 5).toInt := ti_sub e2 (show (1 : Int32).toInt = 1 from rfl) rfl (by rw [j5]; omega) (by rw [j5]; omega)
  have q2 : v2.toInt = (g : Int) := by rw [t2, j5]; omega
  obtain ⟨⟨r3, Ic3, Ac3⟩, h_r3, hf⟩ := m_clE hf
  dsimp only at hf
  obtain ⟨hI3, hA3, -⟩ := ok_of (t_clearGame2 (gg := g) (x1 := v2) hI1 hA (by omega) q2) h_r3
  obtain ⟨a1, a2, a3⟩ := v_clearGame hg q2 h_r3
  have fc := fw_clearGame h_r3
  have D3 := rdt_clear hg q2 h_r3
  dsimp only at a1 a2 a3 hI3 hA3 fc D3
  obtain ⟨⟨r4, Ic4, Ac4⟩, h_r4, hf⟩ := m_clE hf
  dsimp only at hf
  obtain ⟨hI4, hA4, h29⟩ := ok_of (t_usual (x1 := v2) hI3 hA3 (by omega)) h_r4
  have sp4 := v_usual hg q2 h_r4
  have fu := fw_usual h_r4
  have D4 := rdf_t D3 (rdt_usual hg q2 h_r4)
  dsimp only at hI4 hA4 h29 sp4 fu D4
  have tr4 : TRr Ac4 g T00 := trr_e hg (Nat.zero_le _) a2 (by rw [fu.2 7 (by decide)]) (fun j hj => fu.2 j (by simp only [List.mem_cons, List.not_mem_nil, or_false]; omega))
  have tg4 : TGr Ac4 (g : Int) [] := tgr_e a3 (fun j j1 j2 => fu.2 j (by simp only [List.mem_cons, List.not_mem_nil, or_false]; omega))
  have k1 : ∀ j, j ≠ 0 → j ∉ [25, 26, 27, 28, 29] → Ic4 j = I j := fun j h0 hj => by
    rw [fu.1 j hj, a1, e1, upd_ne h0]
  have k2 : Ac4 2 = A 2 := by rw [fu.2 2 (by decide), fc.2 2 (by decide)]
  have c4 : txR Ic4 Ac4 = ch := by
    rw [← hc]
    funext i
    unfold txR
    rw [k1 1 (by decide) (by decide), k2]
  obtain ⟨⟨r5, Ic5, Ac5⟩, h_r5, hf⟩ := m_clE hf
  dsimp only at hf
  have D5 : RDf A Ac5 g := by
    have hg5 : f_readGame_0 v2 Ic4 Ac4 = some (r5, Ic5, Ac5) := h_r5
    unfold f_readGame_0 at hg5
    obtain ⟨I7, e7, hg5⟩ := m_bndE hg5
    have j1 : I7 1 = Ic4 1 := by rw [e7, upd_ne (by decide)]
    have R1 : RV I7 Ac4 ch N 0 := ⟨⟨by rw [e7]; exact tj_u hI4 (show (0 : Int) ≤ (0 : Int32).toInt by decide) (show (0 : Int32).toInt ≤ (2100 : Int) by decide), hA4⟩, ⟨by rw [← c4]; funext i; unfold txR; rw [j1], by rw [j1, k1 1 (by decide) (by decide)]; exact hn, hN⟩, hcb, by rw [e7, upd_self]; rfl, by decide, by decide⟩
    obtain ⟨⟨r2, Ic2, Ac2⟩, h_r2, hg5⟩ := m_clE hg5
    dsimp only at hg5
    obtain ⟨b1, b2, b3, b4, b5⟩ := rv_bl R1 h_r2
    dsimp only at b2 b3 b4
    rw [b3] at hg5 b2
    have i29 : Ic2 29 = Ic4 29 := by rw [b4 29 (by decide), e7, upd_ne (by decide)]
    exact rdf_t D4 (rdt_9 q2 mFuel Ic2 Ac4 (blk ch 0) [] st00 ⟨⟨b2, by omega, hg, by rw [i29]; omega⟩, tg4, sp4, ⟨tr4, wt_00, rfl⟩, pgd_00, by decide, by decide⟩ hg5)
  have fin : ∀ {x2 : Int32} {I' : Nat → Int32}, f_read_47 x2 I' Ac5 = some o → RDf A o.2.2 g := fun {x2 I'} hf => by
    obtain ⟨d1, d2, d3⟩ := rd_47 hf
    exact rdf_t D5 (rdf_hi (fun j hj => d3 j (by simp only [List.mem_cons, List.not_mem_nil, or_false]; omega)))
  rcases m_ifE hf with ⟨-, hf⟩ | ⟨-, hf⟩
  · obtain ⟨I6, e6, hf⟩ := m_bndE hf
    obtain ⟨I7, e7, hf⟩ := m_bndE hf
    obtain ⟨I8, e8, hf⟩ := m_bndE hf
    exact fin hf
  · exact fin hf
end RDS
end
section
/-- both sides between two calls: the text, the result and the number of tags of the game that stands -/
noncomputable def SR (I : Nat → Int32) (A : Nat → Nat → Int32) (S : ZS) : Prop := SM I A S ∧ ∀ g', zP S 7 1 = some g' → zI S 6 g' = A 23 (I 5).toInt.toNat ∧ zI S 5 g' = A 18 (I 5).toInt.toNat
section SRS
variable {S S' : ZS} {g g' : Nat} {I I' : Nat → Int32} {A A' : Nat → Nat → Int32} {W V : List (Nat × Nat)} {B : List Nat} {x1 : Int32}
theorem sc_7 (h : SC S) (p7 : zP S 7 1 = some g') : (g' = 35 ∨ g' = 99) ∧ zK S g' = 1 := by
  obtain ⟨hx, g1, g2, h1, h2, h3⟩ := h
  rw [p7] at h3
  cases h3
  have hg := gg_g (gg_s h1)
  exact ⟨hg, (fx_g hx.1 hg).1.1⟩
theorem sr_z (h : SR I A S) (hs : SM I' A' S') (f : FrZ W V B S S') (hF : Fh S) (hW : (1, 5) ∉ W ∧ (1, 6) ∉ W ∧ (11, 7) ∉ V) (h5 : I' 5 = I 5) (h18 : A' 18 = A 18) (h23 : A' 23 = A 23) : SR I' A' S' := by
  refine ⟨hs, fun g' p7 => ?_⟩
  have q := (f hF).2.2
  have k1 : zK S 1 = 11 := fx_k h.1.1.1.1 (by decide) (by decide)
  have p70 : zP S 7 1 = some g' := by rw [← (q 1 (by rw [k1]; decide)).2.2.2.1 7 (by rw [k1]; exact hW.2.2)]; exact p7
  obtain ⟨hg, kg⟩ := sc_7 h.1.1 p70
  obtain ⟨a1, a2⟩ := h.2 g' p70
  have e := (q g' (by rw [kg]; decide)).2.2.1
  rw [e 6 (by rw [kg]; exact hW.2.1), e 5 (by rw [kg]; exact hW.1), h5, h18, h23]
  exact ⟨a1, a2⟩
theorem sr_c (hK : zK S' = zK S) (hI : zI S' = zI S) (hP : zP S' = zP S) (hN : zN S' = zN S) (hA : zA S' = zA S) (hB : zB S' = zB S) (h : SR I A S) : SR I A S' := by
  refine ⟨sm_c hK hI hP hN hA hB h.1, ?_⟩
  rw [hP, hI]
  exact h.2
theorem sr_read {o2 : Int32 × MS} {o : Int32 × ZS} (hC : CG S) (hI : TJ I) (hA : TK A) (h : SR I A S) (h2 : f_read I A = some o2) (ho : d_X11_read 1 S = some o) : SR o2.2.1 o2.2.2 o.2 := by
  have hs := h.1
  refine ⟨sm_read hC hI hA hs h2 ho, fun q p7' => ?_⟩
  obtain ⟨g, g', hg, p3, p7⟩ := hs.1.2
  have wb := hs.2.2.2
  have b5 : 0 ≤ (I 5).toInt ∧ (I 5).toInt ≤ 1 := hI 5
  rcases p_read hC hg p3 p7 hs.2 ho with ⟨L, st, T, r, a1, a2, a3, a4, a5, a6, a7, -⟩ | ⟨a1, a2, a3⟩
  · rcases v_read (g := 1 - (I 5).toInt.toNat) hI hA rfl rfl wb.1 wb.2 (by omega) (by omega) h2 with ⟨L', st', T', r', b1, b2, b3, b4, b5', b6⟩ | ⟨b1, -⟩
    · rw [a1] at b1
      cases b1
      rw [a5] at p7'
      cases p7'
      have e5 : (o2.2.1 5).toInt.toNat = 1 - (I 5).toInt.toNat := by omega
      rw [e5]
      refine ⟨Int32.toInt_inj.1 (a7.2.2.2.2.trans b6.2.2.2.symm), Int32.toInt_inj.1 (a7.2.2.1.1.trans ?_)⟩
      have := b6.2.2.1.1
      rw [Int.toNat_natCast] at this
      exact this.symm
    · rw [a1] at b1; cases b1
  · rcases v_read (g := 1 - (I 5).toInt.toNat) hI hA rfl rfl wb.1 wb.2 (by omega) (by omega) h2 with ⟨L', st', T', r', b1, -⟩ | ⟨b1, b2, b3, b4, b5', -⟩
    · rw [a1] at b1; cases b1
    · have D := rdt_read (g := 1 - (I 5).toInt.toNat) hI hA rfl rfl wb.1 wb.2 (by omega) (by omega) h2
      have k1 : zK S 1 = 11 := fx_k hs.1.1.1 (by decide) (by decide)
      have e1 : EQc S (zsP S 2 23 (some 2)) 1 := eqc_P rfl (by decide)
      have q7 := (a3 1 (by show zK S 1 < 18; rw [k1]; decide)).1.2.2.1 (by show vPk (zK S 1) = false; rw [k1]; rfl) 7
      rw [q7, e1.2.2.2.1, p7] at p7'
      cases p7'
      obtain ⟨hgr, kg⟩ := sc_7 hs.1 p7
      have eg := fr_e a3 (a := q) (by show zK S q < 18; rw [kg]; decide) (fun hn => hn (Or.inr (Or.inr (Or.inr (Or.inr (Or.inl ⟨Nat.le_refl _, by omega⟩))))))
      have i6 : zI o.2 6 q = zI S 6 q := eg.2.2.1 6
      have i5 : zI o.2 5 q = zI S 5 q := eg.2.2.1 5
      have z1 : (I 5).toInt.toNat / 1 ≠ 1 - (I 5).toInt.toNat := by omega
      rw [i6, i5, b5', D.2 23 (by decide) (by decide) _ z1, D.2 18 (by decide) (by decide) _ z1]
      exact h.2 q p7
theorem sr_end {o2 : Int32 × MS} {o : (Nat × Int32) × ZS} (h5b : 0 ≤ (I 5).toInt ∧ (I 5).toInt ≤ 1) (h : SR I A S) (hs : SM o2.2.1 o2.2.2 o.2) (h2 : f_end x1 I A = some o2) (ho : d_X11_end 1 x1 S = some o) : SR o2.2.1 o2.2.2 o.2 := by
  refine ⟨hs, fun q p7' => ?_⟩
  have hf : d_X11_end_0 1 x1 S = some o := ho
  have hg : f_end_0 x1 I A = some o2 := h2
  have k1 : zK S 1 = 11 := fx_k h.1.1.1.1 (by decide) (by decide)
  have n5 : (I 5).toNatClampNeg = (I 5).toInt.toNat := cl_n (by omega)
  have f5 : o2.2.1 5 = I 5 := (fw_end h2).1 5 (by decide)
  have f18 : o2.2.2 18 = A 18 := (fw_end h2).2 18 (by decide)
  have z0 : (0 : Int32).toInt = 0 := rfl
  have z3 : (3 : Int32).toInt = 3 := rfl
  have z4 : (4 : Int32).toInt = 4 := rfl
  have c46 : ∀ {t0 t1 : Int32} {J : Nat → Int32}, f_end_46 t0 t1 J A = some o2 → o2.2.2 23 = upd (A 23) t1.toNatClampNeg t0 := fun hh => by
    unfold f_end_46 at hh
    obtain ⟨-, hh⟩ := m_chkE hh
    obtain ⟨A1, e1, hh⟩ := m_bndE hh
    cases hh
    show A1 23 = _
    rw [e1, va_up_self]
  have r15 : ∀ {t0 : Int32}, f_end_15 x1 t0 I A = some o2 → t0 = 0 → o2.2.2 23 = upd (A 23) (I 5).toInt.toNat x1 := fun {t0} hh ht => by
    unfold f_end_15 at hh
    obtain ⟨I1, e1, hh⟩ := m_bndE hh
    have j5 : I1 5 = I 5 := by rw [e1, upd_ne (by decide)]
    have j0 : I1 0 = t0 := by rw [e1, upd_self]
    rcases m_ifE hh with ⟨-, hh⟩ | ⟨c, hh⟩
    · have := c46 hh
      rw [this, j5, n5]
    · exact absurd (show I1 0 ≤ 0 by rw [j0, ht]; decide) c
  have r10 : f_end_10 x1 I A = some o2 → o2.2.2 23 = A 23 := fun hh => by
    unfold f_end_10 f_end_15 at hh
    obtain ⟨I1, e1, hh⟩ := m_bndE hh
    have j0 : I1 0 = 1 := by rw [e1, upd_self]
    have j5 : I1 5 = I 5 := by rw [e1, upd_ne (by decide)]
    rcases m_ifE hh with ⟨c, hh⟩ | ⟨-, hh⟩
    · rw [j0] at c; exact absurd c (by decide)
    · obtain ⟨-, hh⟩ := m_chkE hh
      obtain ⟨v2, e2, hh⟩ := m_bndE hh
      have := c46 hh
      rw [this, e2]
      funext i
      by_cases ei : i = (I1 5).toNatClampNeg
      · rw [ei, upd_self]
      · rw [upd_ne ei]
  unfold d_X11_end_0 at hf
  unfold f_end_0 at hg
  have thr : d_X11_end_9 S = some o → f_end_10 x1 I A = some o2 → zI o.2 6 q = o2.2.2 23 (o2.2.1 5).toInt.toNat ∧ zI o.2 5 q = o2.2.2 18 (o2.2.1 5).toInt.toNat := fun hh hg => by
    unfold d_X11_end_9 at hh
    cases hh
    rw [f5, f18, r10 hg]
    exact h.2 q p7'
  rcases m_ifE hf with ⟨c, hf⟩ | ⟨c, hf⟩
  · rcases m_ifE hg with ⟨-, hg⟩ | ⟨c2, hg⟩
    · exact thr hf hg
    · exact absurd c c2
  · rcases m_ifE hg with ⟨c2, hg⟩ | ⟨-, hg⟩
    · exact absurd c2 c
    · rcases m_ifE hf with ⟨c3, hf⟩ | ⟨c3, hf⟩
      · replace c3 := ti_ltP (a := x1) (b := (4 : Int32)) c3 rfl z4
        rcases m_ifE hg with ⟨c4, hg⟩ | ⟨c4, hg⟩
        · obtain ⟨-, hf⟩ := m_chkE hf
          obtain ⟨b1, p7, hf⟩ := m_calE hf
          obtain ⟨kb, hf⟩ := m_chkE hf
          obtain ⟨S2, e2, hf⟩ := m_bndE hf
          cases hf
          have p7' : zP S2 7 1 = some q := p7'
          rw [e2] at p7'
          have p7' : zP S 7 1 = some q := p7'
          rw [p7] at p7'
          cases p7'
          show zI S2 6 q = _ ∧ zI S2 5 q = _
          rw [f5, f18, r15 hg rfl, upd_self, e2, zI_self, zI_j (by decide)]
          exact ⟨rfl, (h.2 q p7).2⟩
        · replace c4 := ti_leN (a := x1) (b := (3 : Int32)) c4 rfl z3
          omega
      · replace c3 := ti_ltN (a := x1) (b := (4 : Int32)) c3 rfl z4
        rcases m_ifE hg with ⟨c4, hg⟩ | ⟨c4, hg⟩
        · replace c4 := ti_leP (a := x1) (b := (3 : Int32)) c4 rfl z3
          omega
        · exact thr hf hg
theorem sr_result {o2 : Int32 × MS} {o : Int32 × ZS} (h5b : 0 ≤ (I 5).toInt ∧ (I 5).toInt ≤ 1) (h : SR I A S) (h2 : f_result I A = some o2) (ho : f_X11_result 1 S = some o) : o.1 = o2.1 := by
  have hf : f_X11_result_0 1 S = some o := ho
  have hg : f_result_0 I A = some o2 := h2
  have n5 : (I 5).toNatClampNeg = (I 5).toInt.toNat := cl_n (by omega)
  unfold f_X11_result_0 at hf
  unfold f_result_0 at hg
  obtain ⟨-, hf⟩ := m_chkE hf
  obtain ⟨b1, p7, hf⟩ := m_calE hf
  obtain ⟨-, hf⟩ := m_chkE hf
  obtain ⟨I1, e1, hg⟩ := m_bndE hg
  obtain ⟨-, hg⟩ := m_chkE hg
  obtain ⟨v2, e2, hg⟩ := m_bndE hg
  cases hf
  cases hg
  have j5 : I1 5 = I 5 := by rw [e1, upd_ne (by decide)]
  show zI S 6 b1 = v2
  rw [e2, j5, n5]
  exact (h.2 b1 p7).1
theorem sr_tags {o2 : Int32 × MS} {o : Int32 × ZS} (h5b : 0 ≤ (I 5).toInt ∧ (I 5).toInt ≤ 1) (h : SR I A S) (h2 : f_tags I A = some o2) (ho : f_X11_tags 1 S = some o) : o.1 = o2.1 := by
  have hf : f_X11_tags_0 1 S = some o := ho
  have hg : f_tags_0 I A = some o2 := h2
  have n5 : (I 5).toNatClampNeg = (I 5).toInt.toNat := cl_n (by omega)
  unfold f_X11_tags_0 at hf
  unfold f_tags_0 at hg
  obtain ⟨-, hf⟩ := m_chkE hf
  obtain ⟨b1, p7, hf⟩ := m_calE hf
  obtain ⟨-, hf⟩ := m_chkE hf
  obtain ⟨I1, e1, hg⟩ := m_bndE hg
  obtain ⟨-, hg⟩ := m_chkE hg
  obtain ⟨v2, e2, hg⟩ := m_bndE hg
  cases hf
  cases hg
  have j5 : I1 5 = I 5 := by rw [e1, upd_ne (by decide)]
  show zI S 5 b1 = v2
  rw [e2, j5, n5]
  exact (h.2 b1 p7).2
theorem v_clear23 {o : Int32 × MS} (hg : g ≤ 1) (h1 : x1.toInt = (g : Int)) (hf : f_clearGame x1 I A = some o) : o.2.2 23 g = 0 := by
  have hf : f_clearGame_0 x1 I A = some o := hf
  have xn : x1.toNatClampNeg = g := cl_n h1
  unfold f_clearGame_0 at hf
  obtain ⟨-, hf⟩ := m_chkE hf
  obtain ⟨A1, e1, hf⟩ := m_bndE hf
  obtain ⟨-, hf⟩ := m_chkE hf
  obtain ⟨A2, e2, hf⟩ := m_bndE hf
  obtain ⟨-, hf⟩ := m_chkE hf
  obtain ⟨A3, e3, hf⟩ := m_bndE hf
  obtain ⟨v4, e4, hf⟩ := m_bndE hf
  have t4 : v4.toInt = 301 * x1.toInt := ti_mul e4 (show (301 : Int32).toInt = 301 from rfl) rfl (by omega) (by omega)
  have i4 : v4.toNatClampNeg = 301 * g := cl_n (by omega)
  obtain ⟨⟨r5, Ic5, Ac5⟩, h_r5, hf⟩ := m_clE hf
  dsimp only at hf
  have h5 : f_clearNode_0 v4 I A3 = some (r5, Ic5, Ac5) := h_r5
  unfold f_clearNode_0 at h5
  obtain ⟨-, h5⟩ := m_chkE h5
  obtain ⟨B1, n1, h5⟩ := m_bndE h5
  obtain ⟨-, h5⟩ := m_chkE h5
  obtain ⟨B2, n2, h5⟩ := m_bndE h5
  obtain ⟨-, h5⟩ := m_chkE h5
  obtain ⟨B3, n3, h5⟩ := m_bndE h5
  obtain ⟨-, h5⟩ := m_chkE h5
  obtain ⟨B4, n4, h5⟩ := m_bndE h5
  have i5 := Option.some.inj h5
  have j1 : I = Ic5 := congrArg (fun z => z.2.1) i5
  have j2 : B4 = Ac5 := congrArg (fun z => z.2.2) i5
  rw [← j1, ← j2] at hf
  obtain ⟨v6, e6, hf⟩ := m_bndE hf
  have t6 : v6.toInt = 301 * x1.toInt := ti_mul e6 (show (301 : Int32).toInt = 301 from rfl) rfl (by omega) (by omega)
  have i6 : v6.toNatClampNeg = 301 * g := cl_n (by omega)
  obtain ⟨-, hf⟩ := m_chkE hf
  obtain ⟨A7, e7, hf⟩ := m_bndE hf
  obtain ⟨v8, e8, hf⟩ := m_bndE hf
  have t8 : v8.toInt = 301 * x1.toInt := ti_mul e8 (show (301 : Int32).toInt = 301 from rfl) rfl (by omega) (by omega)
  have i8 : v8.toNatClampNeg = 301 * g := cl_n (by omega)
  obtain ⟨-, hf⟩ := m_chkE hf
  obtain ⟨A9, e9, hf⟩ := m_bndE hf
  rw [xn] at e1 e2 e3
  rw [i4] at n1 n2 n3 n4
  rw [i6] at e7
  rw [i8] at e9
  cases hf
  show A9 23 g = 0
  rw [e9, va_up_ne _ _ (by decide), e7, va_up_ne _ _ (by decide), n4, va_up_ne _ _ (by decide), n3, va_up_ne _ _ (by decide), n2, va_up_ne _ _ (by decide), n1, va_up_ne _ _ (by decide), e3, va_up_self, upd_self]
end SRS
end
section
/-- the cells of the two games, the object itself and its board: what the other calls must leave alone -/
noncomputable def KP9 (a : Nat) : Prop := (35 ≤ a ∧ a ≤ 41) ∨ (99 ≤ a ∧ a ≤ 105) ∨ 107 ≤ a ∨ a = 1
/-- the other fixed cells -/
noncomputable abbrev WS (a : Nat) : Prop := (2 ≤ a ∧ a ≤ 34) ∨ (42 ≤ a ∧ a ≤ 98) ∨ a = 106
/-- references among them: kind, slot -/
noncomputable def CK (k j : Nat) : Bool := [(0, 0), (7, 0), (7, 1), (8, 0), (8, 1), (8, 10), (9, 0), (3, 0), (3, 1), (11, 0), (11, 1), (11, 2), (11, 3), (11, 4), (11, 5), (11, 6)].contains (k, j)
/-- all fixed references of that sort -/
noncomputable def fxA : List (Nat × Nat × Nat) := fxL ++ (List.range 14).map (fun d => (49 + 2 * d, 0, 50 + 2 * d)) ++ (List.range 7).map (fun d => (85 + 2 * d, 0, 86 + 2 * d))
/-- what holds while the class works with these cells -/
noncomputable def NQ (S : ZS) : Prop := (Fh S ∧ 109 ≤ zt S ∧ 18 ≤ zK S 0 ∧ zc S = 0) ∧ (∀ a b c, zK S a = 6 → zK S b = 6 → zP S 0 a = some c → zP S 0 b = some c → c = 0 ∨ a = b) ∧ (∀ a c, zK S a = 6 → zP S 0 a = some c → c = 0 ∨ zK S c = 13) ∧ (∀ a j b, CK (zK S a) j = true → (WS a ∨ a = 1) → zP S j a = some b → WS b) ∧ (∀ a i b, zK S a = 15 → WS a → ¬ zN S a ≤ i → zB S a i = some b → WS b) ∧ (∀ g, zP S 7 1 = some g → g = 35 ∨ g = 99) ∧ ∀ g b, g = 35 ∨ g = 99 → zP S 7 g = some b → WS b
/-- the games' cells stay -/
noncomputable def KE (S S' : ZS) : Prop := ∀ a, zK S a < 18 → KP9 a → EQc S S' a
section KES
variable {S S1 S2 : ZS} {a b c g i j k x0 : Nat}
theorem ws_k (h : WS a) : ¬ KP9 a := by
  unfold WS at h
  unfold KP9
  omega
theorem ws_lt (h : WS a) : 1 ≤ a ∧ a < 109 := by
  unfold WS at h
  omega
theorem wd_lt (h : WS a ∨ a = 1) : 1 ≤ a ∧ a < 109 := by
  unfold WS at h
  omega
theorem ke_0 : KE S S := fun _ _ _ => eqc_0
theorem ke_t (h : KE S S1) (h2 : KE S1 S2) : KE S S2 := fun a ha hk => eqc_t (h a ha hk) (h2 a (by rw [(h a ha hk).1]; exact ha) hk)
theorem nq_cl (h : NQ S) (hk : zK S a = k) (hc : CK k j = true) (w : WS a ∨ a = 1) (p : zP S j a = some b) : WS b := h.2.2.2.1 a j b (by rw [hk]; exact hc) w p
theorem nq_cb (h : NQ S) (hk : zK S a = 15) (w : WS a) (hi : ¬ zN S a ≤ i) (p : zB S a i = some b) : WS b := h.2.2.2.2.1 a i b hk w hi p
theorem nq_g1 (h : NQ S) (p : zP S 7 1 = some g) : g = 35 ∨ g = 99 := h.2.2.2.2.2.1 g p
theorem nq_g7 (h : NQ S) (hg : g = 35 ∨ g = 99) (p : zP S 7 g = some b) : WS b := h.2.2.2.2.2.2 g b hg p
/-- an int -/
theorem nk_I {v : Int32} (h : NQ S) (w : WS a) (e : S1 = zsI S j a v) : NQ S1 ∧ KE S S1 := by
  subst e
  refine ⟨h, fun x hx kx => ?_⟩
  have hne : x ≠ a := fun e => ws_k w (by rw [← e]; exact kx)
  exact ⟨rfl, rfl, fun q => zI_b hne, fun _ => rfl, rfl, fun _ => rfl, fun _ _ _ => rfl⟩
/-- a number in an array of ints -/
theorem nk_A {v : Int32} (h : NQ S) (w : WS a) (hk : zK S a = 14) (e : S1 = zsA S a i v) : NQ S1 ∧ KE S S1 := by
  subst e
  refine ⟨h, fun x hx kx => ?_⟩
  have hne : x ≠ a := fun e => ws_k w (by rw [← e]; exact kx)
  refine ⟨rfl, rfl, fun _ => rfl, fun _ => rfl, rfl, fun _ => va_up_ne _ _ hne, fun k6 c hc => va_up_ne _ _ (fun e => ?_)⟩
  rcases h.2.2.1 x c k6 hc with e0 | e0
  · have := ws_lt w
    omega
  · rw [e, hk] at e0
    cases e0
theorem nk_C {b sp dp n : Nat} (h : NQ S) (w : WS a) (hk : zK S a = 14) (e : S1 = zsC S b a sp dp n) : NQ S1 ∧ KE S S1 := by
  subst e
  refine ⟨h, fun x hx kx => ?_⟩
  have hne : x ≠ a := fun e => ws_k w (by rw [← e]; exact kx)
  refine ⟨rfl, rfl, fun _ => rfl, fun _ => rfl, rfl, fun _ => va_up_ne _ _ hne, fun k6 c hc => va_up_ne _ _ (fun e => ?_)⟩
  rcases h.2.2.1 x c k6 hc with e0 | e0
  · have := ws_lt w
    omega
  · rw [e, hk] at e0
    cases e0
/-- a sign in a row's own array -/
theorem nk_A13 {v : Int32} (h : NQ S) (w : WS x0) (k6 : zK S x0 = 6) (p : zP S 0 x0 = some a) (hk : zK S a = 13) (e : S1 = zsA S a i v) : NQ S1 ∧ KE S S1 := by
  subst e
  refine ⟨h, fun x hx kx => ?_⟩
  refine ⟨rfl, rfl, fun _ => rfl, fun _ => rfl, rfl, fun hn => va_up_ne _ _ (fun e => hn (by rw [e]; exact hk)), fun k c hc => va_up_ne _ _ (fun e => ?_)⟩
  rw [e] at hc
  rcases h.2.1 x x0 a k k6 hc p with e0 | e0
  · have h0 := h.1.2.2.1
    rw [e0] at hk
    omega
  · exact ws_k w (by rw [← e0]; exact kx)
/-- a new array of signs -/
theorem nk_nA {q n : Nat} (h : NQ S) (eq : q = zt S) (e : S1 = zsNewA S q 13 n) : NQ S1 ∧ KE S S1 := by
  subst eq
  subst e
  obtain ⟨⟨hF, h109, h0, h0c⟩, h2, h3, h4, h5, h6, h7⟩ := h
  have nl : ∀ x, zK S x < 18 → x ≠ zt S := fun x hx e => by
    have := hF x (by omega)
    omega
  have K : ∀ x, x ≠ zt S → zK (zsNewA S (zt S) 13 n) x = zK S x := fun x hx => va_up_ne _ _ hx
  have Kq : zK (zsNewA S (zt S) 13 n) (zt S) = 13 := va_up_self _ _ _
  have K6 : ∀ x k, k ≠ 13 → zK (zsNewA S (zt S) 13 n) x = k → zK S x = k ∧ x ≠ zt S := fun x k hk hx => by
    by_cases e : x = zt S
    · rw [e, Kq] at hx
      exact absurd hx.symm hk
    · rw [K x e] at hx
      exact ⟨hx, e⟩
  refine ⟨⟨⟨fun x hx => ?_, Nat.le_succ_of_le h109, ?_, h0c⟩, fun x y c kx ky px py => h2 x y c (K6 x 6 (by decide) kx).1 (K6 y 6 (by decide) ky).1 px py, fun x c kx px => ?_, fun x j b hc w p => ?_, fun x i b hk w hi p => ?_, h6, h7⟩, fun x hx kx => ?_⟩
  · have hx : zt S + 1 ≤ x := hx
    rw [K x (by omega)]
    exact hF x (by omega)
  · rw [K 0 (by omega)]; exact h0
  · rcases h3 x c (K6 x 6 (by decide) kx).1 px with e | e
    · exact Or.inl e
    · exact Or.inr (by rw [K c (nl c (by omega))]; exact e)
  · have := wd_lt w
    rw [K x (by omega)] at hc
    exact h4 x j b hc w p
  · have hl := ws_lt w
    have hz : x ≠ zt S := by omega
    rw [K x hz] at hk
    have hi : ¬ va_up (zN S) (zt S) n x ≤ i := hi
    rw [va_up_ne _ _ hz] at hi
    have p : va_up (zB S) (zt S) (fun _ => none) x i = some b := p
    rw [va_up_ne _ _ hz] at p
    exact h5 x i b hk w hi p
  · have hz := nl x hx
    refine ⟨K x hz, va_up_ne _ _ hz, fun _ => rfl, fun _ => rfl, va_up_ne _ _ hz, fun _ => va_up_ne _ _ hz, fun k6 c hc => va_up_ne _ _ (fun e => ?_)⟩
    rcases h3 x c k6 hc with e0 | e0
    · omega
    · exact nl c (by omega) e
/-- signs copied into a new array that no row has yet -/
theorem nk_D {b q sp dp n : Nat} (h : NQ S) (hk : zK S q = 13) (hq : ∀ x, zK S x = 6 → zP S 0 x ≠ some q) (e : S1 = zsD S b q sp dp n) : NQ S1 ∧ KE S S1 := by
  subst e
  refine ⟨h, fun x hx kx => ?_⟩
  exact ⟨rfl, rfl, fun _ => rfl, fun _ => rfl, rfl, fun hn => va_up_ne _ _ (fun e => hn (by rw [e]; exact hk)), fun k c hc => va_up_ne _ _ (fun e => hq x k (by rw [← e]; exact hc))⟩
/-- a row gets a new array -/
theorem nk_P {q : Nat} (h : NQ S) (w : WS x0) (k6 : zK S x0 = 6) (hk : zK S q = 13) (hq : ∀ x, zK S x = 6 → zP S 0 x ≠ some q) (e : S1 = zsP S 0 x0 (some q)) : NQ S1 ∧ KE S S1 := by
  subst e
  obtain ⟨h1, h2, h3, h4, h5, h6, h7⟩ := h
  have P0 : ∀ x, x ≠ x0 → zP (zsP S 0 x0 (some q)) 0 x = zP S 0 x := fun x hx => by
    show va_up (zP S) 0 (va_up (zP S 0) x0 (some q)) 0 x = _
    rw [va_up_self, va_up_ne _ _ hx]
  have P0' : zP (zsP S 0 x0 (some q)) 0 x0 = some q := by
    show va_up (zP S) 0 (va_up (zP S 0) x0 (some q)) 0 x0 = _
    rw [va_up_self, va_up_self]
  have Pj : ∀ j, j ≠ 0 → zP (zsP S 0 x0 (some q)) j = zP S j := fun j hj => va_up_ne _ _ hj
  refine ⟨⟨h1, fun x y c kx ky px py => ?_, fun x c kx px => ?_, fun x j b hc wx p => ?_, h5, fun g p => h6 g (by rw [← Pj 7 (by decide)]; exact p), fun g b hg p => h7 g b hg (by rw [← Pj 7 (by decide)]; exact p)⟩, fun x hx kx => ?_⟩
  · by_cases ex : x = x0
    · by_cases ey : y = x0
      · exact Or.inr (ex.trans ey.symm)
      · rw [ex, P0'] at px
        rw [P0 y ey] at py
        cases px
        exact absurd py (hq y ky)
    · by_cases ey : y = x0
      · rw [ey, P0'] at py
        rw [P0 x ex] at px
        cases py
        exact absurd px (hq x kx)
      · rw [P0 x ex] at px
        rw [P0 y ey] at py
        exact h2 x y c kx ky px py
  · by_cases ex : x = x0
    · rw [ex, P0'] at px
      cases px
      exact Or.inr hk
    · rw [P0 x ex] at px
      exact h3 x c kx px
  · by_cases ej : j = 0
    · subst ej
      by_cases ex : x = x0
      · subst ex
        have hc : CK (zK S x) 0 = true := hc
        rw [k6] at hc
        cases hc
      · rw [P0 x ex] at p
        exact h4 x 0 b hc wx p
    · rw [Pj j ej] at p
      exact h4 x j b hc wx p
  · have hne : x ≠ x0 := fun e => ws_k w (by rw [← e]; exact kx)
    refine ⟨rfl, rfl, fun _ => rfl, fun j => ?_, rfl, fun _ => rfl, fun _ _ _ => rfl⟩
    by_cases ej : j = 0
    · rw [ej]; exact P0 x hne
    · rw [Pj j ej]
theorem ke_X6_put {o : Int32 × ZS} {x1 : Int32} (hN : NQ S) (w_x0 : WS x0) (hf : d_X6_put x0 x1 S = some o) : NQ o.2 ∧ KE S o.2 := by
  have s43 : ∀ {S : ZS}, NQ S → d_X6_put_43 x0 x1 S = some o → NQ o.2 ∧ KE S o.2 := fun {S} hN hf => by
    unfold d_X6_put_43 at hf
    obtain ⟨k6, hf⟩ := m_chkE hf
    obtain ⟨b1, p1, hf⟩ := m_calE hf
    obtain ⟨-, hf⟩ := m_chkE hf
    obtain ⟨k13, hf⟩ := m_chkE hf
    obtain ⟨-, hf⟩ := m_chkE hf
    obtain ⟨S2, e2, hf⟩ := m_bndE hf
    obtain ⟨-, hf⟩ := m_chkE hf
    obtain ⟨v3, -, hf⟩ := m_bndE hf
    obtain ⟨-, hf⟩ := m_chkE hf
    obtain ⟨S4, e4, hf⟩ := m_bndE hf
    obtain ⟨n2, f2⟩ := nk_A13 hN w_x0 k6 p1 k13 e2
    obtain ⟨n4, f4⟩ := nk_I n2 w_x0 e4
    cases hf
    exact ⟨n4, ke_t f2 f4⟩
  have hf : d_X6_put_0 x0 x1 S = some o := hf
  unfold d_X6_put_0 at hf
  obtain ⟨k6, hf⟩ := m_chkE hf
  obtain ⟨-, hf⟩ := m_chkE hf
  obtain ⟨b1, p1, hf⟩ := m_calE hf
  obtain ⟨-, hf⟩ := m_chkE hf
  obtain ⟨v2, -, hf⟩ := m_bndE hf
  rcases m_ifE hf with ⟨-, hf⟩ | ⟨-, hf⟩
  · exact s43 hN hf
  · obtain ⟨-, hf⟩ := m_chkE hf
    obtain ⟨v3, -, hf⟩ := m_bndE hf
    obtain ⟨v4, -, hf⟩ := m_bndE hf
    obtain ⟨-, hf⟩ := m_chkE hf
    obtain ⟨q5, e5, hf⟩ := m_bndE hf
    obtain ⟨S6, e6, hf⟩ := m_bndE hf
    obtain ⟨k66, hf⟩ := m_chkE hf
    obtain ⟨b9, -, hf⟩ := m_calE hf
    obtain ⟨-, hf⟩ := m_chkE hf
    obtain ⟨kq, hf⟩ := m_chkE hf
    obtain ⟨-, hf⟩ := m_chkE hf
    obtain ⟨S10, e10, hf⟩ := m_bndE hf
    obtain ⟨-, hf⟩ := m_chkE hf
    obtain ⟨S11, e11, hf⟩ := m_bndE hf
    obtain ⟨n6, f6⟩ := nk_nA hN e5 e6
    have hq : ∀ x, zK S6 x = 6 → zP S6 0 x ≠ some q5 := fun x kx px => by
      have kS : zK S x = 6 := by
        by_cases e : x = q5
        · rw [e, kq] at kx; cases kx
        · rw [e6] at kx
          have kx : va_up (zK S) q5 13 x = 6 := kx
          rw [va_up_ne _ _ e] at kx
          exact kx
      have px : zP S 0 x = some q5 := by rw [e6] at px; exact px
      have hF := hN.1.1
      have h9 := hN.1.2.1
      rcases hN.2.2.1 x q5 kS px with e0 | e0
      · omega
      · have := hF q5 (by omega)
        omega
    obtain ⟨n10, f10⟩ := nk_D n6 kq hq e10
    have k10 : zK S10 x0 = 6 := by rw [e10]; exact k66
    obtain ⟨n11, f11⟩ := nk_P (q := q5) n10 w_x0 k10 (by rw [e10]; exact kq) (fun x kx => by rw [e10] at kx ⊢; exact hq x kx) e11
    obtain ⟨n, f⟩ := s43 n11 hf
    exact ⟨n, ke_t f6 (ke_t f10 (ke_t f11 f))⟩
theorem nq_q (h : NQ S) : NQ (zsQ S) := by
  obtain ⟨⟨hF, h109, h0, h0c⟩, r⟩ := h
  exact ⟨⟨fun x hx => hF x (Nat.le_trans (Nat.le_succ _) hx), Nat.le_succ_of_le h109, h0, h0c⟩, r⟩
theorem ke_q (h : KE S S1) : KE S (zsQ S1) := h
/-- a new tag that no game has -/
theorem nk_Tg (h : NQ S) : NQ (zTg S) ∧ KE S (zTg S) := by
  obtain ⟨f1, f2, f3, f4, f5, f6, -⟩ := tg_f S
  obtain ⟨e1, e2, e3, e4, e5, -⟩ := tg_e S
  obtain ⟨⟨hF, h109, h0, h0c⟩, h2, h3, h4, h5, h6, h7⟩ := h
  have nl : ∀ x, zK S x < 18 → ¬ (x = zt S ∨ x = zt S + 1 ∨ x = zt S + 2) := fun x hx e => by
    have := hF x (by omega)
    omega
  have lo : ∀ x, x < 109 → ¬ (x = zt S ∨ x = zt S + 1 ∨ x = zt S + 2) := fun x hx => by omega
  have R6 : ∀ x c, zK (zTg S) x = 6 → zP (zTg S) 0 x = some c → c = 0 ∨ (zK S x = 6 ∧ zP S 0 x = some c) := fun x c kx px => by
    by_cases e0 : x = zt S
    · rw [e0, f4] at kx; cases kx
    · by_cases ea : x = zt S + 1
      · rw [ea, f5.2.1] at px
        cases px
        exact Or.inl h0c
      · by_cases eb : x = zt S + 2
        · rw [eb, f6.2.1] at px
          cases px
          exact Or.inl h0c
        · have hn : ¬ (x = zt S ∨ x = zt S + 1 ∨ x = zt S + 2) := by omega
          rw [f1 x hn] at kx
          rw [f3 x 0 hn] at px
          exact Or.inr ⟨kx, px⟩
  refine ⟨⟨⟨fun x hx => ?_, by rw [e5]; omega, by rw [f1 0 (lo 0 (by decide))]; exact h0, by rw [e4]; exact h0c⟩, fun x y c kx ky px py => ?_, fun x c kx px => ?_, fun x j b hc w p => ?_, fun x i b hk w hi p => ?_, fun g p => h6 g (by rw [← f3 1 7 (lo 1 (by decide))]; exact p), fun g b hg p => h7 g b hg (by rw [← f3 g 7 (lo g (by omega))]; exact p)⟩, fun x hx kx => ?_⟩
  · rw [e5] at hx
    rw [f1 x (by omega)]
    exact hF x (by omega)
  · rcases R6 x c kx px with e | ⟨ka, pa⟩
    · exact Or.inl e
    · rcases R6 y c ky py with e | ⟨kb, pb⟩
      · exact Or.inl e
      · exact h2 x y c ka kb pa pb
  · rcases R6 x c kx px with e | ⟨ka, pa⟩
    · exact Or.inl e
    · rcases h3 x c ka pa with e | e
      · exact Or.inl e
      · exact Or.inr (by rw [f1 c (nl c (by omega))]; exact e)
  · have hl := lo x (wd_lt w).2
    rw [f1 x hl] at hc
    rw [f3 x j hl] at p
    exact h4 x j b hc w p
  · have hl := lo x (ws_lt w).2
    rw [f1 x hl] at hk
    rw [e1] at hi
    rw [e3] at p
    exact h5 x i b hk w hi p
  · have hl := nl x hx
    exact ⟨f1 x hl, by rw [e1], fun j => f2 x j hl, fun j => f3 x j hl, by rw [e3], fun _ => by rw [e2], fun _ _ _ => by rw [e2]⟩
theorem ke_X1_tagAt {o : Nat × ZS} {x1 : Int32} (hN : NQ S) (hf : d_X1_tagAt x0 x1 S = some o) : NQ o.2 ∧ KE S o.2 := by
  have h38 : ∀ {t : Option Nat} {S1 : ZS}, d_X1_tagAt_38 t S1 = some o → o.2 = S1 := fun hf => by
    unfold d_X1_tagAt_38 at hf
    obtain ⟨b1, -, hf⟩ := m_calE hf
    cases hf
    rfl
  have s22 : ∀ {t0 : Option Nat}, d_X1_tagAt_22 t0 S = some o → NQ o.2 ∧ KE S o.2 := fun hf => by
    unfold d_X1_tagAt_22 at hf
    rcases m_optE hf with ⟨-, hf⟩ | ⟨b1, -, hf⟩
    · obtain ⟨q2, e1, hf⟩ := m_bndE hf
      obtain ⟨S3, e2, hf⟩ := m_bndE hf
      obtain ⟨⟨r7, S8⟩, ho, hf⟩ := m_cal2E hf
      rw [e2, e1, init10 S] at ho
      have e8 : S8 = zTg S := by
        have := Option.some.inj ho
        exact (congrArg Prod.snd this).symm
      rw [h38 hf]
      show NQ S8 ∧ KE S S8
      rw [e8]
      exact nk_Tg hN
    · rw [h38 hf]
      exact ⟨hN, ke_0⟩
  have hf : d_X1_tagAt_0 x0 x1 S = some o := hf
  have h21 : d_X1_tagAt_21 S = some o → NQ o.2 ∧ KE S o.2 := fun hf => by
    unfold d_X1_tagAt_21 at hf
    exact s22 hf
  unfold d_X1_tagAt_0 at hf
  rcases m_ifE hf with ⟨-, hf⟩ | ⟨-, hf⟩
  · exact h21 hf
  · obtain ⟨q1, hf⟩ := m_chkE hf
    rcases m_ifE hf with ⟨-, hf⟩ | ⟨-, hf⟩
    · exact h21 hf
    · obtain ⟨q2, hf⟩ := m_chkE hf
      obtain ⟨b1, -, hf⟩ := m_calE hf
      obtain ⟨q3, hf⟩ := m_chkE hf
      obtain ⟨-, hf⟩ := m_chkE hf
      obtain ⟨v2, e4, hf⟩ := m_bndE hf
      exact s22 hf
/-- what holds between two calls is enough -/
theorem fxA_cl : ∀ a, a < 109 → ∀ j, j < 11 → (WS a ∨ a = 1) → CK (fxK a) j = true → (fxA.any (fun t => t.1 == a && t.2.1 == j && decide (WS t.2.2))) = true := by decide +kernel
theorem ck_j {k j : Nat} (h : CK k j = true) : j < 11 := by
  unfold CK at h
  rw [List.contains_iff_mem] at h
  simp only [List.mem_cons, Prod.mk.injEq, List.not_mem_nil, or_false] at h
  omega
theorem nq_sc (hT : ZT S) (h : SC S) : NQ S := by
  obtain ⟨hx, gr, gs, hg, p3, p7⟩ := h
  have X := hx.1
  have A : ∀ t ∈ fxA, zP S t.2.1 t.1 = some t.2.2 := fun t ht => by
    unfold fxA at ht
    rcases List.mem_append.1 ht with ht | ht
    · rcases List.mem_append.1 ht with ht | ht
      · exact X.2.1 t ht
      · obtain ⟨d, hd, e⟩ := List.mem_map.1 ht
        rw [← e]
        exact X.2.2.1 d (List.mem_range.1 hd)
    · obtain ⟨d, hd, e⟩ := List.mem_map.1 ht
      rw [← e]
      exact X.2.2.2.1 d (List.mem_range.1 hd)
  have n84 : zN S 84 = 7 := by
    obtain ⟨b, q, -, n⟩ := T_3_1 (a := 77) hT (fx_k X (by decide) (by decide))
    rw [fx_p X (show (77, 1, 84) ∈ fxL by decide)] at q
    cases q
    exact n
  have n47 : zN S 47 = 7 := by
    obtain ⟨b, q, -, n⟩ := T_2_10 (a := 23) hT (fx_k X (by decide) (by decide))
    rw [fx_p X (show (23, 10, 47) ∈ fxL by decide)] at q
    cases q
    exact n
  have n48 : zN S 48 = 7 := by
    obtain ⟨b, q, -, n⟩ := T_2_11 (a := 23) hT (fx_k X (by decide) (by decide))
    rw [fx_p X (show (23, 11, 48) ∈ fxL by decide)] at q
    cases q
    exact n
  have k15 : ∀ a, a < 109 → fxK a = 15 → a = 47 ∨ a = 48 ∨ a = 84 := by decide +kernel
  refine ⟨⟨hT.2.2.2.2.1, hT.2.2.2.2.2.2.2.2.2.2.1, hT.2.2.2.2.2.1, hT.2.2.2.2.2.2.2.2.2.1⟩, fun a b c ka kb pa pb => hT.2.2.2.2.2.2.2.2.2.2.2 a b c ka kb pa pb, fun a c ka pa => ?_, fun a j b hc w p => ?_, fun a i b hk w hi p => ?_, fun g p => ?_, fun g b hgg p => ?_⟩
  · obtain ⟨b, q1, q2, -⟩ := hT.2.1 a ka
    rw [pa] at q1
    cases q1
    exact q2
  · have hl := wd_lt w
    rw [fx_k X hl.1 (by omega)] at hc
    obtain ⟨t, ht, e⟩ := List.any_eq_true.1 (fxA_cl a hl.2 j (ck_j hc) w hc)
    rw [Bool.and_eq_true, Bool.and_eq_true, beq_iff_eq, beq_iff_eq] at e
    obtain ⟨⟨e1, e2⟩, e3⟩ := e
    have q := A t ht
    rw [e1, e2, p] at q
    cases q
    exact of_decide_eq_true e3
  · have hl := ws_lt w
    rw [fx_k X hl.1 (by omega)] at hk
    rcases k15 a hl.2 hk with e | e | e
    · rw [e] at p hi
      rw [(X.2.2.2.2.1 i (by omega)).1] at p
      cases p
      unfold WS
      omega
    · rw [e] at p hi
      rw [(X.2.2.2.2.1 i (by omega)).2.1] at p
      cases p
      unfold WS
      omega
    · rw [e] at p hi
      rw [(X.2.2.2.2.1 i (by omega)).2.2] at p
      cases p
      unfold WS
      omega
  · rw [p7] at p
    cases p
    exact gg_g (gg_s hg)
  · rcases hgg with e | e
    · rw [e, fx_p X (show (35, 7, 42) ∈ fxL by decide)] at p
      cases p
      decide
    · rw [e, fx_p X (show (99, 7, 106) ∈ fxL by decide)] at p
      cases p
      decide
end KES

theorem ke_X0_put_32 {o : Int32 × ZS} {S : ZS}  (hN : NQ S)  (hf : f_X0_put_32 S = some o) : NQ o.2 ∧ KE S o.2 := by
  unfold f_X0_put_32 at hf
  cases hf
  exact ⟨hN, ke_0⟩
theorem ke_X0_put_0 {o : Int32 × ZS} {x0 : Nat} {x1 : Int32} {x2 : Int32} {S : ZS}  (hN : NQ S) (w_x0 : WS x0) (hf : f_X0_put_0 x0 x1 x2 S = some o) : NQ o.2 ∧ KE S o.2 := by
  unfold f_X0_put_0 at hf
  obtain ⟨q1, hf⟩ := m_chkE hf
  obtain ⟨b1, p_b1, hf⟩ := m_calE hf
  obtain ⟨q2, hf⟩ := m_chkE hf
  obtain ⟨q3, hf⟩ := m_chkE hf
  obtain ⟨S2, e4, hf⟩ := m_bndE hf
  obtain ⟨n_S2, k_S2⟩ := nk_A hN (nq_cl hN q1 (by decide) (Or.inl w_x0) p_b1) q2 e4
  replace k_S2 := ke_t ke_0 k_S2
  rcases m_ifE hf with ⟨-, hf⟩ | ⟨-, hf⟩
  ·
    obtain ⟨q5, hf⟩ := m_chkE hf
    obtain ⟨S4, e6, hf⟩ := m_bndE hf
    obtain ⟨n_S4, k_S4⟩ := nk_I n_S2 w_x0 e6
    replace k_S4 := ke_t k_S2 k_S4
    obtain ⟨n_9, k_9⟩ := ke_X0_put_32  n_S4  hf
    exact ⟨n_9, ke_t k_S4 k_9⟩
  ·
    rcases m_ifE hf with ⟨-, hf⟩ | ⟨-, hf⟩
    ·
      obtain ⟨q7, hf⟩ := m_chkE hf
      obtain ⟨S3, e8, hf⟩ := m_bndE hf
      obtain ⟨n_S3, k_S3⟩ := nk_I n_S2 w_x0 e8
      replace k_S3 := ke_t k_S2 k_S3
      obtain ⟨n_9, k_9⟩ := ke_X0_put_32  n_S3  hf
      exact ⟨n_9, ke_t k_S3 k_9⟩
    ·
      obtain ⟨n_9, k_9⟩ := ke_X0_put_32  n_S2  hf
      exact ⟨n_9, ke_t k_S2 k_9⟩
theorem ke_X0_put {o : Int32 × ZS} {x0 : Nat} {x1 : Int32} {x2 : Int32} {S : ZS}  (hN : NQ S) (w_x0 : WS x0) (hf : f_X0_put x0 x1 x2 S = some o) : NQ o.2 ∧ KE S o.2 := by
  unfold f_X0_put at hf
  obtain ⟨n_9, k_9⟩ := ke_X0_put_0  hN w_x0 hf
  exact ⟨n_9, ke_t ke_0 k_9⟩
theorem ke_X0_copyFrom_0 {o : Int32 × ZS} {x0 : Nat} {x1 : Nat} {S : ZS}  (hN : NQ S) (w_x0 : WS x0) (hf : f_X0_copyFrom_0 x0 x1 S = some o) : NQ o.2 ∧ KE S o.2 := by
  unfold f_X0_copyFrom_0 at hf
  obtain ⟨q1, hf⟩ := m_chkE hf
  obtain ⟨b1, p_b1, hf⟩ := m_calE hf
  obtain ⟨q2, hf⟩ := m_chkE hf
  obtain ⟨b2, p_b2, hf⟩ := m_calE hf
  obtain ⟨q3, hf⟩ := m_chkE hf
  obtain ⟨q4, hf⟩ := m_chkE hf
  obtain ⟨-, hf⟩ := m_chkE hf
  obtain ⟨S3, e5, hf⟩ := m_bndE hf
  obtain ⟨n_S3, k_S3⟩ := nk_C hN (nq_cl hN q2 (by decide) (Or.inl w_x0) p_b2) q4 e5
  replace k_S3 := ke_t ke_0 k_S3
  obtain ⟨q6, hf⟩ := m_chkE hf
  obtain ⟨q7, hf⟩ := m_chkE hf
  obtain ⟨S4, e8, hf⟩ := m_bndE hf
  obtain ⟨n_S4, k_S4⟩ := nk_I n_S3 w_x0 e8
  replace k_S4 := ke_t k_S3 k_S4
  obtain ⟨q9, hf⟩ := m_chkE hf
  obtain ⟨q10, hf⟩ := m_chkE hf
  obtain ⟨S5, e11, hf⟩ := m_bndE hf
  obtain ⟨n_S5, k_S5⟩ := nk_I n_S4 w_x0 e11
  replace k_S5 := ke_t k_S4 k_S5
  obtain ⟨q12, hf⟩ := m_chkE hf
  obtain ⟨q13, hf⟩ := m_chkE hf
  obtain ⟨S6, e14, hf⟩ := m_bndE hf
  obtain ⟨n_S6, k_S6⟩ := nk_I n_S5 w_x0 e14
  replace k_S6 := ke_t k_S5 k_S6
  obtain ⟨q15, hf⟩ := m_chkE hf
  obtain ⟨q16, hf⟩ := m_chkE hf
  obtain ⟨S7, e17, hf⟩ := m_bndE hf
  obtain ⟨n_S7, k_S7⟩ := nk_I n_S6 w_x0 e17
  replace k_S7 := ke_t k_S6 k_S7
  obtain ⟨q18, hf⟩ := m_chkE hf
  obtain ⟨q19, hf⟩ := m_chkE hf
  obtain ⟨S8, e20, hf⟩ := m_bndE hf
  obtain ⟨n_S8, k_S8⟩ := nk_I n_S7 w_x0 e20
  replace k_S8 := ke_t k_S7 k_S8
  obtain ⟨q21, hf⟩ := m_chkE hf
  obtain ⟨q22, hf⟩ := m_chkE hf
  obtain ⟨S9, e23, hf⟩ := m_bndE hf
  obtain ⟨n_S9, k_S9⟩ := nk_I n_S8 w_x0 e23
  replace k_S9 := ke_t k_S8 k_S9
  cases hf
  exact ⟨n_S9, k_S9⟩
theorem ke_X0_copyFrom {o : Int32 × ZS} {x0 : Nat} {x1 : Nat} {S : ZS}  (hN : NQ S) (w_x0 : WS x0) (hf : f_X0_copyFrom x0 x1 S = some o) : NQ o.2 ∧ KE S o.2 := by
  unfold f_X0_copyFrom at hf
  obtain ⟨n_9, k_9⟩ := ke_X0_copyFrom_0  hN w_x0 hf
  exact ⟨n_9, ke_t ke_0 k_9⟩
theorem ke_X0_play_227 {o : Int32 × ZS} {x0 : Nat} {S : ZS}  (hN : NQ S) (w_x0 : WS x0) (hf : f_X0_play_227 x0 S = some o) : NQ o.2 ∧ KE S o.2 := by
  unfold f_X0_play_227 at hf
  obtain ⟨q1, hf⟩ := m_chkE hf
  obtain ⟨q2, hf⟩ := m_chkE hf
  obtain ⟨v1, -, hf⟩ := m_bndE hf
  obtain ⟨q3, hf⟩ := m_chkE hf
  obtain ⟨S2, e4, hf⟩ := m_bndE hf
  obtain ⟨n_S2, k_S2⟩ := nk_I hN w_x0 e4
  replace k_S2 := ke_t ke_0 k_S2
  obtain ⟨q5, hf⟩ := m_chkE hf
  obtain ⟨v3, -, hf⟩ := m_bndE hf
  obtain ⟨q6, hf⟩ := m_chkE hf
  obtain ⟨S4, e7, hf⟩ := m_bndE hf
  obtain ⟨n_S4, k_S4⟩ := nk_I n_S2 w_x0 e7
  replace k_S4 := ke_t k_S2 k_S4
  cases hf
  exact ⟨n_S4, k_S4⟩
theorem ke_X0_play_200 {o : Int32 × ZS} {x0 : Nat} {x2 : Int32} {x3 : Int32} {S : ZS}  (hN : NQ S) (w_x0 : WS x0) (hf : f_X0_play_200 x0 x2 x3 S = some o) : NQ o.2 ∧ KE S o.2 := by
  unfold f_X0_play_200 at hf
  obtain ⟨v1, -, hf⟩ := m_bndE hf
  obtain ⟨v2, -, hf⟩ := m_bndE hf
  obtain ⟨q1, hf⟩ := m_chkE hf
  obtain ⟨v3, -, hf⟩ := m_bndE hf
  obtain ⟨q2, hf⟩ := m_chkE hf
  obtain ⟨o4, ho, hf⟩ := m_calE hf
  have r_o4 := ro_X0_pawnAttacks ho
  have n_o4 : NQ o4.2 := by rw [r_o4]; exact hN
  have k_o4 : KE S o4.2 := by rw [r_o4]; exact ke_0
  clear ho
  rcases m_ifE hf with ⟨-, hf⟩ | ⟨-, hf⟩
  ·
    obtain ⟨n_9, k_9⟩ := ke_X0_play_227  n_o4 w_x0 hf
    exact ⟨n_9, ke_t k_o4 k_9⟩
  ·
    obtain ⟨v5, -, hf⟩ := m_bndE hf
    obtain ⟨v6, -, hf⟩ := m_bndE hf
    obtain ⟨q3, hf⟩ := m_chkE hf
    obtain ⟨S7, e4, hf⟩ := m_bndE hf
    obtain ⟨n_S7, k_S7⟩ := nk_I n_o4 w_x0 e4
    replace k_S7 := ke_t k_o4 k_S7
    obtain ⟨n_9, k_9⟩ := ke_X0_play_227  n_S7 w_x0 hf
    exact ⟨n_9, ke_t k_S7 k_9⟩
theorem ke_X0_play_144 {o : Int32 × ZS} {x0 : Nat} {x2 : Int32} {x3 : Int32} {x5 : Int32} {t0 : Int32} {t1 : Int32} {t2 : Nat} {S : ZS}  (hN : NQ S) (w_x0 : WS x0) (w_t2 : WS t2) (hf : f_X0_play_144 x0 x2 x3 x5 t0 t1 t2 S = some o) : NQ o.2 ∧ KE S o.2 := by
  unfold f_X0_play_144 at hf
  obtain ⟨q1, hf⟩ := m_chkE hf
  obtain ⟨o1, ho, hf⟩ := m_calE hf
  obtain ⟨n_o1, k_o1⟩ := ke_X0_put hN w_t2 ho
  replace k_o1 := ke_t ke_0 k_o1
  clear ho
  obtain ⟨q2, hf⟩ := m_chkE hf
  obtain ⟨b2, p_b2, hf⟩ := m_calE hf
  obtain ⟨q3, hf⟩ := m_chkE hf
  obtain ⟨q4, hf⟩ := m_chkE hf
  obtain ⟨S3, e5, hf⟩ := m_bndE hf
  obtain ⟨n_S3, k_S3⟩ := nk_A n_o1 (nq_cl n_o1 q2 (by decide) (Or.inl w_x0) p_b2) q3 e5
  replace k_S3 := ke_t k_o1 k_S3
  obtain ⟨q6, hf⟩ := m_chkE hf
  obtain ⟨o4, ho, hf⟩ := m_calE hf
  have r_o4 := ro_X0_rightsOf ho
  have n_o4 : NQ o4.2 := by rw [r_o4]; exact n_S3
  have k_o4 : KE S o4.2 := by rw [r_o4]; exact k_S3
  clear ho
  obtain ⟨o5, ho, hf⟩ := m_calE hf
  have r_o5 := ro_X0_rightsOf ho
  have n_o5 : NQ o5.2 := by rw [r_o5]; exact n_o4
  have k_o5 : KE S o5.2 := by rw [r_o5]; exact k_o4
  clear ho
  obtain ⟨v6, -, hf⟩ := m_bndE hf
  obtain ⟨v7, -, hf⟩ := m_bndE hf
  obtain ⟨v8, -, hf⟩ := m_bndE hf
  obtain ⟨q7, hf⟩ := m_chkE hf
  obtain ⟨S9, e8, hf⟩ := m_bndE hf
  obtain ⟨n_S9, k_S9⟩ := nk_I n_o5 w_x0 e8
  replace k_S9 := ke_t k_o5 k_S9
  obtain ⟨q9, hf⟩ := m_chkE hf
  obtain ⟨S10, e10, hf⟩ := m_bndE hf
  obtain ⟨n_S10, k_S10⟩ := nk_I n_S9 w_x0 e10
  replace k_S10 := ke_t k_S9 k_S10
  rcases m_ifE hf with ⟨-, hf⟩ | ⟨-, hf⟩
  ·
    obtain ⟨n_9, k_9⟩ := ke_X0_play_227  n_S10 w_x0 hf
    exact ⟨n_9, ke_t k_S10 k_9⟩
  ·
    obtain ⟨v11, -, hf⟩ := m_bndE hf
    rcases m_ifE hf with ⟨-, hf⟩ | ⟨-, hf⟩
    ·
      obtain ⟨n_9, k_9⟩ := ke_X0_play_200  n_S10 w_x0 hf
      exact ⟨n_9, ke_t k_S10 k_9⟩
    ·
      obtain ⟨v12, -, hf⟩ := m_bndE hf
      rcases m_ifE hf with ⟨-, hf⟩ | ⟨-, hf⟩
      ·
        obtain ⟨n_9, k_9⟩ := ke_X0_play_200  n_S10 w_x0 hf
        exact ⟨n_9, ke_t k_S10 k_9⟩
      ·
        obtain ⟨n_9, k_9⟩ := ke_X0_play_227  n_S10 w_x0 hf
        exact ⟨n_9, ke_t k_S10 k_9⟩
theorem ke_X0_play_118 {o : Int32 × ZS} {x0 : Nat} {x2 : Int32} {x3 : Int32} {x4 : Int32} {x5 : Int32} {S : ZS}  (hN : NQ S) (w_x0 : WS x0) (hf : f_X0_play_118 x0 x2 x3 x4 x5 S = some o) : NQ o.2 ∧ KE S o.2 := by
  unfold f_X0_play_118 at hf
  rcases m_ifE hf with ⟨-, hf⟩ | ⟨-, hf⟩
  ·
    obtain ⟨q1, hf⟩ := m_chkE hf
    obtain ⟨b3, p_b3, hf⟩ := m_calE hf
    obtain ⟨q2, hf⟩ := m_chkE hf
    obtain ⟨q3, hf⟩ := m_chkE hf
    obtain ⟨v4, -, hf⟩ := m_bndE hf
    obtain ⟨n_9, k_9⟩ := ke_X0_play_144  hN w_x0 w_x0 hf
    exact ⟨n_9, ke_t ke_0 k_9⟩
  ·
    obtain ⟨q4, hf⟩ := m_chkE hf
    obtain ⟨v1, -, hf⟩ := m_bndE hf
    obtain ⟨v2, -, hf⟩ := m_bndE hf
    obtain ⟨n_9, k_9⟩ := ke_X0_play_144  hN w_x0 w_x0 hf
    exact ⟨n_9, ke_t ke_0 k_9⟩
theorem ke_X0_play_91 {o : Int32 × ZS} {x0 : Nat} {x2 : Int32} {x3 : Int32} {x4 : Int32} {x5 : Int32} {t0 : Int32} {S : ZS}  (hN : NQ S) (w_x0 : WS x0) (hf : f_X0_play_91 x0 x2 x3 x4 x5 t0 S = some o) : NQ o.2 ∧ KE S o.2 := by
  unfold f_X0_play_91 at hf
  obtain ⟨q1, hf⟩ := m_chkE hf
  obtain ⟨b1, p_b1, hf⟩ := m_calE hf
  obtain ⟨v2, -, hf⟩ := m_bndE hf
  obtain ⟨v3, -, hf⟩ := m_bndE hf
  obtain ⟨q2, hf⟩ := m_chkE hf
  obtain ⟨b4, p_b4, hf⟩ := m_calE hf
  obtain ⟨q3, hf⟩ := m_chkE hf
  obtain ⟨q4, hf⟩ := m_chkE hf
  obtain ⟨v5, -, hf⟩ := m_bndE hf
  obtain ⟨q5, hf⟩ := m_chkE hf
  obtain ⟨q6, hf⟩ := m_chkE hf
  obtain ⟨S6, e7, hf⟩ := m_bndE hf
  obtain ⟨n_S6, k_S6⟩ := nk_A hN (nq_cl hN q2 (by decide) (Or.inl w_x0) p_b1) q5 e7
  replace k_S6 := ke_t ke_0 k_S6
  obtain ⟨q8, hf⟩ := m_chkE hf
  obtain ⟨b7, p_b7, hf⟩ := m_calE hf
  obtain ⟨q9, hf⟩ := m_chkE hf
  obtain ⟨q10, hf⟩ := m_chkE hf
  obtain ⟨S8, e11, hf⟩ := m_bndE hf
  obtain ⟨n_S8, k_S8⟩ := nk_A n_S6 (nq_cl n_S6 q8 (by decide) (Or.inl w_x0) p_b7) q9 e11
  replace k_S8 := ke_t k_S6 k_S8
  obtain ⟨n_9, k_9⟩ := ke_X0_play_118  n_S8 w_x0 hf
  exact ⟨n_9, ke_t k_S8 k_9⟩
theorem ke_X0_play_66 {o : Int32 × ZS} {x0 : Nat} {x2 : Int32} {x3 : Int32} {x4 : Int32} {x5 : Int32} {S : ZS}  (hN : NQ S) (w_x0 : WS x0) (hf : f_X0_play_66 x0 x2 x3 x4 x5 S = some o) : NQ o.2 ∧ KE S o.2 := by
  unfold f_X0_play_66 at hf
  obtain ⟨q1, hf⟩ := m_chkE hf
  obtain ⟨o1, ho, hf⟩ := m_calE hf
  have r_o1 := ro_X0_castles ho
  have n_o1 : NQ o1.2 := by rw [r_o1]; exact hN
  have k_o1 : KE S o1.2 := by rw [r_o1]; exact ke_0
  clear ho
  rcases m_ifE hf with ⟨-, hf⟩ | ⟨-, hf⟩
  ·
    obtain ⟨n_9, k_9⟩ := ke_X0_play_118  n_o1 w_x0 hf
    exact ⟨n_9, ke_t k_o1 k_9⟩
  ·
    rcases m_ifE hf with ⟨-, hf⟩ | ⟨-, hf⟩
    ·
      obtain ⟨v2, -, hf⟩ := m_bndE hf
      obtain ⟨n_9, k_9⟩ := ke_X0_play_91  n_o1 w_x0 hf
      exact ⟨n_9, ke_t k_o1 k_9⟩
    ·
      obtain ⟨v3, -, hf⟩ := m_bndE hf
      obtain ⟨n_9, k_9⟩ := ke_X0_play_91  n_o1 w_x0 hf
      exact ⟨n_9, ke_t k_o1 k_9⟩
theorem ke_X0_play_36 {o : Int32 × ZS} {x0 : Nat} {x2 : Int32} {x3 : Int32} {x4 : Int32} {t0 : Int32} {S : ZS}  (hN : NQ S) (w_x0 : WS x0) (hf : f_X0_play_36 x0 x2 x3 x4 t0 S = some o) : NQ o.2 ∧ KE S o.2 := by
  unfold f_X0_play_36 at hf
  rcases m_ifE hf with ⟨-, hf⟩ | ⟨-, hf⟩
  ·
    obtain ⟨n_9, k_9⟩ := ke_X0_play_66  hN w_x0 hf
    exact ⟨n_9, ke_t ke_0 k_9⟩
  ·
    obtain ⟨q1, hf⟩ := m_chkE hf
    rcases m_ifE hf with ⟨-, hf⟩ | ⟨-, hf⟩
    ·
      obtain ⟨q2, hf⟩ := m_chkE hf
      obtain ⟨b1, p_b1, hf⟩ := m_calE hf
      obtain ⟨v2, -, hf⟩ := m_bndE hf
      obtain ⟨v3, -, hf⟩ := m_bndE hf
      obtain ⟨v4, -, hf⟩ := m_bndE hf
      obtain ⟨q3, hf⟩ := m_chkE hf
      obtain ⟨q4, hf⟩ := m_chkE hf
      obtain ⟨S5, e5, hf⟩ := m_bndE hf
      obtain ⟨n_S5, k_S5⟩ := nk_A hN (nq_cl hN q2 (by decide) (Or.inl w_x0) p_b1) q3 e5
      replace k_S5 := ke_t ke_0 k_S5
      obtain ⟨n_9, k_9⟩ := ke_X0_play_66  n_S5 w_x0 hf
      exact ⟨n_9, ke_t k_S5 k_9⟩
    ·
      obtain ⟨n_9, k_9⟩ := ke_X0_play_66  hN w_x0 hf
      exact ⟨n_9, ke_t ke_0 k_9⟩
theorem ke_X0_play_0 {o : Int32 × ZS} {x0 : Nat} {x1 : Int32} {S : ZS}  (hN : NQ S) (w_x0 : WS x0) (hf : f_X0_play_0 x0 x1 S = some o) : NQ o.2 ∧ KE S o.2 := by
  unfold f_X0_play_0 at hf
  obtain ⟨v1, -, hf⟩ := m_bndE hf
  obtain ⟨v2, -, hf⟩ := m_bndE hf
  obtain ⟨v3, -, hf⟩ := m_bndE hf
  obtain ⟨v4, -, hf⟩ := m_bndE hf
  obtain ⟨v5, -, hf⟩ := m_bndE hf
  obtain ⟨q1, hf⟩ := m_chkE hf
  obtain ⟨o6, ho, hf⟩ := m_calE hf
  have r_o6 := ro_X0_kindAt ho
  have n_o6 : NQ o6.2 := by rw [r_o6]; exact hN
  have k_o6 : KE S o6.2 := by rw [r_o6]; exact ke_0
  clear ho
  rcases m_ifE hf with ⟨-, hf⟩ | ⟨-, hf⟩
  ·
    obtain ⟨n_9, k_9⟩ := ke_X0_play_36  n_o6 w_x0 hf
    exact ⟨n_9, ke_t k_o6 k_9⟩
  ·
    obtain ⟨n_9, k_9⟩ := ke_X0_play_36  n_o6 w_x0 hf
    exact ⟨n_9, ke_t k_o6 k_9⟩
theorem ke_X0_play {o : Int32 × ZS} {x0 : Nat} {x1 : Int32} {S : ZS}  (hN : NQ S) (w_x0 : WS x0) (hf : f_X0_play x0 x1 S = some o) : NQ o.2 ∧ KE S o.2 := by
  unfold f_X0_play at hf
  obtain ⟨n_9, k_9⟩ := ke_X0_play_0  hN w_x0 hf
  exact ⟨n_9, ke_t ke_0 k_9⟩
theorem ke_X6_keep_17 {o : Int32 × ZS} {S : ZS}  (hN : NQ S)  (hf : f_X6_keep_17 S = some o) : NQ o.2 ∧ KE S o.2 := by
  unfold f_X6_keep_17 at hf
  cases hf
  exact ⟨hN, ke_0⟩
theorem ke_X6_keep_0 {o : Int32 × ZS} {x0 : Nat} {x1 : Int32} {S : ZS}  (hN : NQ S) (w_x0 : WS x0) (hf : f_X6_keep_0 x0 x1 S = some o) : NQ o.2 ∧ KE S o.2 := by
  unfold f_X6_keep_0 at hf
  rcases m_ifE hf with ⟨-, hf⟩ | ⟨-, hf⟩
  ·
    obtain ⟨n_9, k_9⟩ := ke_X6_keep_17  hN  hf
    exact ⟨n_9, ke_t ke_0 k_9⟩
  ·
    obtain ⟨q1, hf⟩ := m_chkE hf
    rcases m_ifE hf with ⟨-, hf⟩ | ⟨-, hf⟩
    ·
      obtain ⟨n_9, k_9⟩ := ke_X6_keep_17  hN  hf
      exact ⟨n_9, ke_t ke_0 k_9⟩
    ·
      obtain ⟨q2, hf⟩ := m_chkE hf
      obtain ⟨S1, e3, hf⟩ := m_bndE hf
      obtain ⟨n_S1, k_S1⟩ := nk_I hN w_x0 e3
      replace k_S1 := ke_t ke_0 k_S1
      obtain ⟨n_9, k_9⟩ := ke_X6_keep_17  n_S1  hf
      exact ⟨n_9, ke_t k_S1 k_9⟩
theorem ke_X6_keep {o : Int32 × ZS} {x0 : Nat} {x1 : Int32} {S : ZS}  (hN : NQ S) (w_x0 : WS x0) (hf : f_X6_keep x0 x1 S = some o) : NQ o.2 ∧ KE S o.2 := by
  unfold f_X6_keep at hf
  obtain ⟨n_9, k_9⟩ := ke_X6_keep_0  hN w_x0 hf
  exact ⟨n_9, ke_t ke_0 k_9⟩
theorem ke_X8_parseApart_104 {o : Int32 × ZS} {t0 : Int32} {S : ZS}  (hN : NQ S)  (hf : f_X8_parseApart_104 t0 S = some o) : NQ o.2 ∧ KE S o.2 := by
  unfold f_X8_parseApart_104 at hf
  obtain ⟨-, hf⟩ := m_chkE hf
  cases hf
  exact ⟨hN, ke_0⟩
theorem ke_X8_parseApart_94 {o : Int32 × ZS} {x2 : Int32} {x3 : Int32} {S : ZS}  (hN : NQ S)  (hf : f_X8_parseApart_94 x2 x3 S = some o) : NQ o.2 ∧ KE S o.2 := by
  unfold f_X8_parseApart_94 at hf
  rcases m_ifE hf with ⟨-, hf⟩ | ⟨-, hf⟩
  ·
    obtain ⟨n_9, k_9⟩ := ke_X8_parseApart_104  hN  hf
    exact ⟨n_9, ke_t ke_0 k_9⟩
  ·
    obtain ⟨n_9, k_9⟩ := ke_X8_parseApart_104  hN  hf
    exact ⟨n_9, ke_t ke_0 k_9⟩
theorem ke_X8_parseApart_49 {o : Int32 × ZS} {x0 : Nat} {x2 : Int32} {x3 : Int32} {S : ZS}  (hN : NQ S) (w_x0 : WS x0) (hf : f_X8_parseApart_49 x0 x2 x3 S = some o) : NQ o.2 ∧ KE S o.2 := by
  unfold f_X8_parseApart_49 at hf
  rcases m_ifE hf with ⟨-, hf⟩ | ⟨-, hf⟩
  ·
    obtain ⟨n_9, k_9⟩ := ke_X8_parseApart_94  hN  hf
    exact ⟨n_9, ke_t ke_0 k_9⟩
  ·
    obtain ⟨q1, hf⟩ := m_chkE hf
    rcases m_ifE hf with ⟨-, hf⟩ | ⟨-, hf⟩
    ·
      obtain ⟨n_9, k_9⟩ := ke_X8_parseApart_94  hN  hf
      exact ⟨n_9, ke_t ke_0 k_9⟩
    ·
      obtain ⟨q2, hf⟩ := m_chkE hf
      obtain ⟨b1, p_b1, hf⟩ := m_calE hf
      obtain ⟨q3, hf⟩ := m_chkE hf
      obtain ⟨o2, ho, hf⟩ := m_calE hf
      have r_o2 := ro_X6_at ho
      have n_o2 : NQ o2.2 := by rw [r_o2]; exact hN
      have k_o2 : KE S o2.2 := by rw [r_o2]; exact ke_0
      clear ho
      obtain ⟨o3, ho, hf⟩ := m_calE hf
      have r_o3 := ro_X11_isRank ho
      have n_o3 : NQ o3.2 := by rw [r_o3]; exact n_o2
      have k_o3 : KE S o3.2 := by rw [r_o3]; exact k_o2
      clear ho
      rcases m_ifE hf with ⟨-, hf⟩ | ⟨-, hf⟩
      ·
        obtain ⟨n_9, k_9⟩ := ke_X8_parseApart_94  n_o3  hf
        exact ⟨n_9, ke_t k_o3 k_9⟩
      ·
        obtain ⟨q4, hf⟩ := m_chkE hf
        obtain ⟨b4, p_b4, hf⟩ := m_calE hf
        obtain ⟨q5, hf⟩ := m_chkE hf
        obtain ⟨o5, ho, hf⟩ := m_calE hf
        have r_o5 := ro_X6_at ho
        have n_o5 : NQ o5.2 := by rw [r_o5]; exact n_o3
        have k_o5 : KE S o5.2 := by rw [r_o5]; exact k_o3
        clear ho
        obtain ⟨v6, -, hf⟩ := m_bndE hf
        obtain ⟨q6, hf⟩ := m_chkE hf
        obtain ⟨S7, e7, hf⟩ := m_bndE hf
        obtain ⟨n_S7, k_S7⟩ := nk_I n_o5 w_x0 e7
        replace k_S7 := ke_t k_o5 k_S7
        obtain ⟨v8, -, hf⟩ := m_bndE hf
        obtain ⟨n_9, k_9⟩ := ke_X8_parseApart_94  n_S7  hf
        exact ⟨n_9, ke_t k_S7 k_9⟩
theorem ke_X8_parseApart_0 {o : Int32 × ZS} {x0 : Nat} {x1 : Int32} {x2 : Int32} {S : ZS}  (hN : NQ S) (w_x0 : WS x0) (hf : f_X8_parseApart_0 x0 x1 x2 S = some o) : NQ o.2 ∧ KE S o.2 := by
  unfold f_X8_parseApart_0 at hf
  obtain ⟨q1, hf⟩ := m_chkE hf
  obtain ⟨S1, e2, hf⟩ := m_bndE hf
  obtain ⟨n_S1, k_S1⟩ := nk_I hN w_x0 e2
  replace k_S1 := ke_t ke_0 k_S1
  obtain ⟨q3, hf⟩ := m_chkE hf
  obtain ⟨S2, e4, hf⟩ := m_bndE hf
  obtain ⟨n_S2, k_S2⟩ := nk_I n_S1 w_x0 e4
  replace k_S2 := ke_t k_S1 k_S2
  rcases m_ifE hf with ⟨-, hf⟩ | ⟨-, hf⟩
  ·
    obtain ⟨n_9, k_9⟩ := ke_X8_parseApart_49  n_S2 w_x0 hf
    exact ⟨n_9, ke_t k_S2 k_9⟩
  ·
    obtain ⟨q5, hf⟩ := m_chkE hf
    obtain ⟨b3, p_b3, hf⟩ := m_calE hf
    obtain ⟨q6, hf⟩ := m_chkE hf
    obtain ⟨o4, ho, hf⟩ := m_calE hf
    have r_o4 := ro_X6_at ho
    have n_o4 : NQ o4.2 := by rw [r_o4]; exact n_S2
    have k_o4 : KE S o4.2 := by rw [r_o4]; exact k_S2
    clear ho
    obtain ⟨o5, ho, hf⟩ := m_calE hf
    have r_o5 := ro_X11_isFile ho
    have n_o5 : NQ o5.2 := by rw [r_o5]; exact n_o4
    have k_o5 : KE S o5.2 := by rw [r_o5]; exact k_o4
    clear ho
    rcases m_ifE hf with ⟨-, hf⟩ | ⟨-, hf⟩
    ·
      obtain ⟨n_9, k_9⟩ := ke_X8_parseApart_49  n_o5 w_x0 hf
      exact ⟨n_9, ke_t k_o5 k_9⟩
    ·
      obtain ⟨q7, hf⟩ := m_chkE hf
      obtain ⟨b6, p_b6, hf⟩ := m_calE hf
      obtain ⟨q8, hf⟩ := m_chkE hf
      obtain ⟨o7, ho, hf⟩ := m_calE hf
      have r_o7 := ro_X6_at ho
      have n_o7 : NQ o7.2 := by rw [r_o7]; exact n_o5
      have k_o7 : KE S o7.2 := by rw [r_o7]; exact k_o5
      clear ho
      obtain ⟨v8, -, hf⟩ := m_bndE hf
      obtain ⟨q9, hf⟩ := m_chkE hf
      obtain ⟨S9, e10, hf⟩ := m_bndE hf
      obtain ⟨n_S9, k_S9⟩ := nk_I n_o7 w_x0 e10
      replace k_S9 := ke_t k_o7 k_S9
      obtain ⟨v10, -, hf⟩ := m_bndE hf
      obtain ⟨n_9, k_9⟩ := ke_X8_parseApart_49  n_S9 w_x0 hf
      exact ⟨n_9, ke_t k_S9 k_9⟩
theorem ke_X8_parseApart {o : Int32 × ZS} {x0 : Nat} {x1 : Int32} {x2 : Int32} {S : ZS}  (hN : NQ S) (w_x0 : WS x0) (hf : f_X8_parseApart x0 x1 x2 S = some o) : NQ o.2 ∧ KE S o.2 := by
  unfold f_X8_parseApart at hf
  obtain ⟨n_9, k_9⟩ := ke_X8_parseApart_0  hN w_x0 hf
  exact ⟨n_9, ke_t ke_0 k_9⟩
theorem ke_X8_parse_232 {o : Int32 × ZS} {x0 : Nat} {x1 : Int32} {x2 : Int32} {t0 : Int32} {t1 : Nat} {S : ZS}  (hN : NQ S) (w_x0 : WS x0) (w_t1 : WS t1) (hf : f_X8_parse_232 x0 x1 x2 t0 t1 S = some o) : NQ o.2 ∧ KE S o.2 := by
  unfold f_X8_parse_232 at hf
  obtain ⟨q1, hf⟩ := m_chkE hf
  obtain ⟨S1, e2, hf⟩ := m_bndE hf
  obtain ⟨n_S1, k_S1⟩ := nk_I hN w_t1 e2
  replace k_S1 := ke_t ke_0 k_S1
  obtain ⟨q3, hf⟩ := m_chkE hf
  obtain ⟨v2, -, hf⟩ := m_bndE hf
  obtain ⟨q4, hf⟩ := m_chkE hf
  obtain ⟨o3, ho, hf⟩ := m_calE hf
  obtain ⟨n_o3, k_o3⟩ := ke_X8_parseApart n_S1 w_x0 ho
  replace k_o3 := ke_t k_S1 k_o3
  clear ho
  obtain ⟨-, hf⟩ := m_chkE hf
  cases hf
  exact ⟨n_o3, k_o3⟩
theorem ke_X8_parse_231 {o : Int32 × ZS} {x0 : Nat} {x1 : Int32} {x2 : Int32} {t0 : Nat} {S : ZS}  (hN : NQ S) (w_x0 : WS x0) (w_t0 : WS t0) (hf : f_X8_parse_231 x0 x1 x2 t0 S = some o) : NQ o.2 ∧ KE S o.2 := by
  unfold f_X8_parse_231 at hf
  obtain ⟨n_9, k_9⟩ := ke_X8_parse_232  hN w_x0 w_t0 hf
  exact ⟨n_9, ke_t ke_0 k_9⟩
theorem ke_X8_parse_166 {o : Int32 × ZS} {x0 : Nat} {x1 : Int32} {x2 : Int32} {S : ZS}  (hN : NQ S) (w_x0 : WS x0) (hf : f_X8_parse_166 x0 x1 x2 S = some o) : NQ o.2 ∧ KE S o.2 := by
  unfold f_X8_parse_166 at hf
  obtain ⟨q1, hf⟩ := m_chkE hf
  obtain ⟨b1, p_b1, hf⟩ := m_calE hf
  obtain ⟨v2, -, hf⟩ := m_bndE hf
  obtain ⟨q2, hf⟩ := m_chkE hf
  obtain ⟨o3, ho, hf⟩ := m_calE hf
  have r_o3 := ro_X6_at ho
  have n_o3 : NQ o3.2 := by rw [r_o3]; exact hN
  have k_o3 : KE S o3.2 := by rw [r_o3]; exact ke_0
  clear ho
  obtain ⟨q3, hf⟩ := m_chkE hf
  obtain ⟨b4, p_b4, hf⟩ := m_calE hf
  obtain ⟨v5, -, hf⟩ := m_bndE hf
  obtain ⟨q4, hf⟩ := m_chkE hf
  obtain ⟨o6, ho, hf⟩ := m_calE hf
  have r_o6 := ro_X6_at ho
  have n_o6 : NQ o6.2 := by rw [r_o6]; exact n_o3
  have k_o6 : KE S o6.2 := by rw [r_o6]; exact k_o3
  clear ho
  obtain ⟨o7, ho, hf⟩ := m_calE hf
  have r_o7 := ro_X11_squareOf ho
  have n_o7 : NQ o7.2 := by rw [r_o7]; exact n_o6
  have k_o7 : KE S o7.2 := by rw [r_o7]; exact k_o6
  clear ho
  obtain ⟨q5, hf⟩ := m_chkE hf
  obtain ⟨S8, e6, hf⟩ := m_bndE hf
  obtain ⟨n_S8, k_S8⟩ := nk_I n_o7 w_x0 e6
  replace k_S8 := ke_t k_o7 k_S8
  obtain ⟨v9, -, hf⟩ := m_bndE hf
  obtain ⟨q7, hf⟩ := m_chkE hf
  rcases m_ifE hf with ⟨-, hf⟩ | ⟨-, hf⟩
  ·
    obtain ⟨-, hf⟩ := m_chkE hf
    cases hf
    exact ⟨n_S8, k_S8⟩
  ·
    rcases m_ifE hf with ⟨-, hf⟩ | ⟨-, hf⟩
    ·
      obtain ⟨n_9, k_9⟩ := ke_X8_parse_231  n_S8 w_x0 w_x0 hf
      exact ⟨n_9, ke_t k_S8 k_9⟩
    ·
      obtain ⟨q8, hf⟩ := m_chkE hf
      obtain ⟨b10, p_b10, hf⟩ := m_calE hf
      obtain ⟨v11, -, hf⟩ := m_bndE hf
      obtain ⟨q9, hf⟩ := m_chkE hf
      obtain ⟨o12, ho, hf⟩ := m_calE hf
      have r_o12 := ro_X6_at ho
      have n_o12 : NQ o12.2 := by rw [r_o12]; exact n_S8
      have k_o12 : KE S o12.2 := by rw [r_o12]; exact k_S8
      clear ho
      rcases m_ifE hf with ⟨-, hf⟩ | ⟨-, hf⟩
      ·
        obtain ⟨n_9, k_9⟩ := ke_X8_parse_232  n_o12 w_x0 w_x0 hf
        exact ⟨n_9, ke_t k_o12 k_9⟩
      ·
        obtain ⟨n_9, k_9⟩ := ke_X8_parse_231  n_o12 w_x0 w_x0 hf
        exact ⟨n_9, ke_t k_o12 k_9⟩
theorem ke_X8_parse_161 {o : Int32 × ZS} {S : ZS}  (hN : NQ S)  (hf : f_X8_parse_161 S = some o) : NQ o.2 ∧ KE S o.2 := by
  unfold f_X8_parse_161 at hf
  obtain ⟨-, hf⟩ := m_chkE hf
  cases hf
  exact ⟨hN, ke_0⟩
theorem ke_X8_parse_102 {o : Int32 × ZS} {x0 : Nat} {x1 : Int32} {x2 : Int32} {t0 : Int32} {t1 : Nat} {S : ZS}  (hN : NQ S) (w_x0 : WS x0) (w_t1 : WS t1) (hf : f_X8_parse_102 x0 x1 x2 t0 t1 S = some o) : NQ o.2 ∧ KE S o.2 := by
  unfold f_X8_parse_102 at hf
  obtain ⟨q1, hf⟩ := m_chkE hf
  obtain ⟨S1, e2, hf⟩ := m_bndE hf
  obtain ⟨n_S1, k_S1⟩ := nk_I hN w_t1 e2
  replace k_S1 := ke_t ke_0 k_S1
  obtain ⟨q3, hf⟩ := m_chkE hf
  rcases m_ifE hf with ⟨-, hf⟩ | ⟨-, hf⟩
  ·
    obtain ⟨q4, hf⟩ := m_chkE hf
    obtain ⟨b2, p_b2, hf⟩ := m_calE hf
    obtain ⟨v3, -, hf⟩ := m_bndE hf
    obtain ⟨q5, hf⟩ := m_chkE hf
    obtain ⟨o4, ho, hf⟩ := m_calE hf
    have r_o4 := ro_X6_at ho
    have n_o4 : NQ o4.2 := by rw [r_o4]; exact n_S1
    have k_o4 : KE S o4.2 := by rw [r_o4]; exact k_S1
    clear ho
    rcases m_ifE hf with ⟨-, hf⟩ | ⟨-, hf⟩
    ·
      obtain ⟨q6, hf⟩ := m_chkE hf
      obtain ⟨b5, p_b5, hf⟩ := m_calE hf
      obtain ⟨v6, -, hf⟩ := m_bndE hf
      obtain ⟨q7, hf⟩ := m_chkE hf
      obtain ⟨o7, ho, hf⟩ := m_calE hf
      have r_o7 := ro_X6_at ho
      have n_o7 : NQ o7.2 := by rw [r_o7]; exact n_o4
      have k_o7 : KE S o7.2 := by rw [r_o7]; exact k_o4
      clear ho
      obtain ⟨o8, ho, hf⟩ := m_calE hf
      have r_o8 := ro_X11_kindOf ho
      have n_o8 : NQ o8.2 := by rw [r_o8]; exact n_o7
      have k_o8 : KE S o8.2 := by rw [r_o8]; exact k_o7
      clear ho
      obtain ⟨q8, hf⟩ := m_chkE hf
      obtain ⟨S9, e9, hf⟩ := m_bndE hf
      obtain ⟨n_S9, k_S9⟩ := nk_I n_o8 w_x0 e9
      replace k_S9 := ke_t k_o8 k_S9
      obtain ⟨q10, hf⟩ := m_chkE hf
      rcases m_ifE hf with ⟨-, hf⟩ | ⟨-, hf⟩
      ·
        obtain ⟨n_9, k_9⟩ := ke_X8_parse_161  n_S9  hf
        exact ⟨n_9, ke_t k_S9 k_9⟩
      ·
        obtain ⟨q11, hf⟩ := m_chkE hf
        rcases m_ifE hf with ⟨-, hf⟩ | ⟨-, hf⟩
        ·
          obtain ⟨v10, -, hf⟩ := m_bndE hf
          obtain ⟨n_9, k_9⟩ := ke_X8_parse_166  n_S9 w_x0 hf
          exact ⟨n_9, ke_t k_S9 k_9⟩
        ·
          obtain ⟨n_9, k_9⟩ := ke_X8_parse_161  n_S9  hf
          exact ⟨n_9, ke_t k_S9 k_9⟩
    ·
      obtain ⟨n_9, k_9⟩ := ke_X8_parse_166  n_o4 w_x0 hf
      exact ⟨n_9, ke_t k_o4 k_9⟩
  ·
    obtain ⟨n_9, k_9⟩ := ke_X8_parse_166  n_S1 w_x0 hf
    exact ⟨n_9, ke_t k_S1 k_9⟩
theorem ke_X8_parse_72 {o : Int32 × ZS} {x0 : Nat} {t0 : Int32} {S : ZS}  (hN : NQ S) (w_x0 : WS x0) (hf : f_X8_parse_72 x0 t0 S = some o) : NQ o.2 ∧ KE S o.2 := by
  unfold f_X8_parse_72 at hf
  obtain ⟨q1, hf⟩ := m_chkE hf
  obtain ⟨b1, p_b1, hf⟩ := m_calE hf
  obtain ⟨q2, hf⟩ := m_chkE hf
  obtain ⟨o2, ho, hf⟩ := m_calE hf
  have r_o2 := ro_X6_size ho
  have n_o2 : NQ o2.2 := by rw [r_o2]; exact hN
  have k_o2 : KE S o2.2 := by rw [r_o2]; exact ke_0
  clear ho
  rcases m_ifE hf with ⟨-, hf⟩ | ⟨-, hf⟩
  ·
    obtain ⟨q3, hf⟩ := m_chkE hf
    obtain ⟨b3, p_b3, hf⟩ := m_calE hf
    obtain ⟨q4, hf⟩ := m_chkE hf
    obtain ⟨o4, ho, hf⟩ := m_calE hf
    have r_o4 := ro_X6_at ho
    have n_o4 : NQ o4.2 := by rw [r_o4]; exact n_o2
    have k_o4 : KE S o4.2 := by rw [r_o4]; exact k_o2
    clear ho
    obtain ⟨o5, ho, hf⟩ := m_calE hf
    have r_o5 := ro_X11_kindOf ho
    have n_o5 : NQ o5.2 := by rw [r_o5]; exact n_o4
    have k_o5 : KE S o5.2 := by rw [r_o5]; exact k_o4
    clear ho
    obtain ⟨n_9, k_9⟩ := ke_X8_parse_102  n_o5 w_x0 w_x0 hf
    exact ⟨n_9, ke_t k_o5 k_9⟩
  ·
    obtain ⟨n_9, k_9⟩ := ke_X8_parse_102  n_o2 w_x0 w_x0 hf
    exact ⟨n_9, ke_t k_o2 k_9⟩
theorem ke_X8_parse_40 {o : Int32 × ZS} {x0 : Nat} {t0 : Int32} {t1 : Nat} {S : ZS}  (hN : NQ S) (w_x0 : WS x0) (w_t1 : WS t1) (hf : f_X8_parse_40 x0 t0 t1 S = some o) : NQ o.2 ∧ KE S o.2 := by
  unfold f_X8_parse_40 at hf
  obtain ⟨q1, hf⟩ := m_chkE hf
  obtain ⟨S1, e2, hf⟩ := m_bndE hf
  obtain ⟨n_S1, k_S1⟩ := nk_I hN w_t1 e2
  replace k_S1 := ke_t ke_0 k_S1
  obtain ⟨q3, hf⟩ := m_chkE hf
  rcases m_ifE hf with ⟨-, hf⟩ | ⟨-, hf⟩
  ·
    obtain ⟨q4, hf⟩ := m_chkE hf
    obtain ⟨b2, p_b2, hf⟩ := m_calE hf
    obtain ⟨q5, hf⟩ := m_chkE hf
    obtain ⟨o3, ho, hf⟩ := m_calE hf
    have r_o3 := ro_X6_at ho
    have n_o3 : NQ o3.2 := by rw [r_o3]; exact n_S1
    have k_o3 : KE S o3.2 := by rw [r_o3]; exact k_S1
    clear ho
    obtain ⟨o4, ho, hf⟩ := m_calE hf
    have r_o4 := ro_X11_kindOf ho
    have n_o4 : NQ o4.2 := by rw [r_o4]; exact n_o3
    have k_o4 : KE S o4.2 := by rw [r_o4]; exact k_o3
    clear ho
    rcases m_ifE hf with ⟨-, hf⟩ | ⟨-, hf⟩
    ·
      obtain ⟨n_9, k_9⟩ := ke_X8_parse_72  n_o4 w_x0 hf
      exact ⟨n_9, ke_t k_o4 k_9⟩
    ·
      obtain ⟨n_9, k_9⟩ := ke_X8_parse_72  n_o4 w_x0 hf
      exact ⟨n_9, ke_t k_o4 k_9⟩
  ·
    obtain ⟨-, hf⟩ := m_chkE hf
    cases hf
    exact ⟨n_S1, k_S1⟩
theorem ke_X8_parse_0 {o : Int32 × ZS} {x0 : Nat} {S : ZS}  (hN : NQ S) (w_x0 : WS x0) (hf : f_X8_parse_0 x0 S = some o) : NQ o.2 ∧ KE S o.2 := by
  unfold f_X8_parse_0 at hf
  obtain ⟨q1, hf⟩ := m_chkE hf
  obtain ⟨S1, e2, hf⟩ := m_bndE hf
  obtain ⟨n_S1, k_S1⟩ := nk_I hN w_x0 e2
  replace k_S1 := ke_t ke_0 k_S1
  obtain ⟨q3, hf⟩ := m_chkE hf
  obtain ⟨b2, p_b2, hf⟩ := m_calE hf
  obtain ⟨q4, hf⟩ := m_chkE hf
  obtain ⟨o3, ho, hf⟩ := m_calE hf
  have r_o3 := ro_X6_is ho
  have n_o3 : NQ o3.2 := by rw [r_o3]; exact n_S1
  have k_o3 : KE S o3.2 := by rw [r_o3]; exact k_S1
  clear ho
  rcases m_ifE hf with ⟨-, hf⟩ | ⟨-, hf⟩
  ·
    obtain ⟨q5, hf⟩ := m_chkE hf
    obtain ⟨b4, p_b4, hf⟩ := m_calE hf
    obtain ⟨q6, hf⟩ := m_chkE hf
    obtain ⟨o5, ho, hf⟩ := m_calE hf
    have r_o5 := ro_X6_is ho
    have n_o5 : NQ o5.2 := by rw [r_o5]; exact n_o3
    have k_o5 : KE S o5.2 := by rw [r_o5]; exact k_o3
    clear ho
    rcases m_ifE hf with ⟨-, hf⟩ | ⟨-, hf⟩
    ·
      obtain ⟨n_9, k_9⟩ := ke_X8_parse_40  n_o5 w_x0 w_x0 hf
      exact ⟨n_9, ke_t k_o5 k_9⟩
    ·
      obtain ⟨n_9, k_9⟩ := ke_X8_parse_40  n_o5 w_x0 w_x0 hf
      exact ⟨n_9, ke_t k_o5 k_9⟩
  ·
    obtain ⟨n_9, k_9⟩ := ke_X8_parse_40  n_o3 w_x0 w_x0 hf
    exact ⟨n_9, ke_t k_o3 k_9⟩
theorem ke_X8_parse {o : Int32 × ZS} {x0 : Nat} {S : ZS}  (hN : NQ S) (w_x0 : WS x0) (hf : f_X8_parse x0 S = some o) : NQ o.2 ∧ KE S o.2 := by
  unfold f_X8_parse at hf
  obtain ⟨n_9, k_9⟩ := ke_X8_parse_0  hN w_x0 hf
  exact ⟨n_9, ke_t ke_0 k_9⟩
theorem ke_X7_isSafe_105 {o : Int32 × ZS} {t0 : Int32} {S : ZS}  (hN : NQ S)  (hf : f_X7_isSafe_105 t0 S = some o) : NQ o.2 ∧ KE S o.2 := by
  unfold f_X7_isSafe_105 at hf
  obtain ⟨-, hf⟩ := m_chkE hf
  cases hf
  exact ⟨hN, ke_0⟩
theorem ke_X7_isSafe_61 {o : Int32 × ZS} {x0 : Nat} {x1 : Nat} {x2 : Int32} {x5 : Int32} {S : ZS}  (hN : NQ S) (w_x0 : WS x0) (hf : f_X7_isSafe_61 x0 x1 x2 x5 S = some o) : NQ o.2 ∧ KE S o.2 := by
  unfold f_X7_isSafe_61 at hf
  obtain ⟨q1, hf⟩ := m_chkE hf
  obtain ⟨b1, p_b1, hf⟩ := m_calE hf
  obtain ⟨q2, hf⟩ := m_chkE hf
  obtain ⟨o2, ho, hf⟩ := m_calE hf
  obtain ⟨n_o2, k_o2⟩ := ke_X0_copyFrom hN (nq_cl hN q1 (by decide) (Or.inl w_x0) p_b1) ho
  replace k_o2 := ke_t ke_0 k_o2
  clear ho
  obtain ⟨q3, hf⟩ := m_chkE hf
  obtain ⟨b3, p_b3, hf⟩ := m_calE hf
  obtain ⟨q4, hf⟩ := m_chkE hf
  obtain ⟨o4, ho, hf⟩ := m_calE hf
  obtain ⟨n_o4, k_o4⟩ := ke_X0_play n_o2 (nq_cl n_o2 q3 (by decide) (Or.inl w_x0) p_b3) ho
  replace k_o4 := ke_t k_o2 k_o4
  clear ho
  obtain ⟨q5, hf⟩ := m_chkE hf
  obtain ⟨b5, p_b5, hf⟩ := m_calE hf
  obtain ⟨q6, hf⟩ := m_chkE hf
  obtain ⟨b6, p_b6, hf⟩ := m_calE hf
  obtain ⟨q7, hf⟩ := m_chkE hf
  obtain ⟨o7, ho, hf⟩ := m_calE hf
  have r_o7 := ro_X0_kingOf ho
  have n_o7 : NQ o7.2 := by rw [r_o7]; exact n_o4
  have k_o7 : KE S o7.2 := by rw [r_o7]; exact k_o4
  clear ho
  obtain ⟨v8, -, hf⟩ := m_bndE hf
  obtain ⟨q8, hf⟩ := m_chkE hf
  obtain ⟨o9, ho, hf⟩ := m_calE hf
  have r_o9 := ro_X0_attacked ho
  have n_o9 : NQ o9.2 := by rw [r_o9]; exact n_o7
  have k_o9 : KE S o9.2 := by rw [r_o9]; exact k_o7
  clear ho
  rcases m_ifE hf with ⟨-, hf⟩ | ⟨-, hf⟩
  ·
    obtain ⟨n_9, k_9⟩ := ke_X7_isSafe_105  n_o9  hf
    exact ⟨n_9, ke_t k_o9 k_9⟩
  ·
    obtain ⟨n_9, k_9⟩ := ke_X7_isSafe_105  n_o9  hf
    exact ⟨n_9, ke_t k_o9 k_9⟩
theorem ke_X7_isSafe_59 {o : Int32 × ZS} {S : ZS}  (hN : NQ S)  (hf : f_X7_isSafe_59 S = some o) : NQ o.2 ∧ KE S o.2 := by
  unfold f_X7_isSafe_59 at hf
  obtain ⟨-, hf⟩ := m_chkE hf
  cases hf
  exact ⟨hN, ke_0⟩
theorem ke_X7_isSafe_0 {o : Int32 × ZS} {x0 : Nat} {x1 : Nat} {x2 : Int32} {S : ZS}  (hN : NQ S) (w_x0 : WS x0) (hf : f_X7_isSafe_0 x0 x1 x2 S = some o) : NQ o.2 ∧ KE S o.2 := by
  unfold f_X7_isSafe_0 at hf
  obtain ⟨v1, -, hf⟩ := m_bndE hf
  obtain ⟨v2, -, hf⟩ := m_bndE hf
  obtain ⟨v3, -, hf⟩ := m_bndE hf
  obtain ⟨q1, hf⟩ := m_chkE hf
  obtain ⟨q2, hf⟩ := m_chkE hf
  obtain ⟨o4, ho, hf⟩ := m_calE hf
  have r_o4 := ro_X0_castles ho
  have n_o4 : NQ o4.2 := by rw [r_o4]; exact hN
  have k_o4 : KE S o4.2 := by rw [r_o4]; exact ke_0
  clear ho
  rcases m_ifE hf with ⟨-, hf⟩ | ⟨-, hf⟩
  ·
    obtain ⟨n_9, k_9⟩ := ke_X7_isSafe_61  n_o4 w_x0 hf
    exact ⟨n_9, ke_t k_o4 k_9⟩
  ·
    obtain ⟨v5, -, hf⟩ := m_bndE hf
    obtain ⟨q3, hf⟩ := m_chkE hf
    obtain ⟨o6, ho, hf⟩ := m_calE hf
    have r_o6 := ro_X0_attacked ho
    have n_o6 : NQ o6.2 := by rw [r_o6]; exact n_o4
    have k_o6 : KE S o6.2 := by rw [r_o6]; exact k_o4
    clear ho
    rcases m_ifE hf with ⟨-, hf⟩ | ⟨-, hf⟩
    ·
      obtain ⟨v7, -, hf⟩ := m_bndE hf
      obtain ⟨v8, -, hf⟩ := m_bndE hf
      obtain ⟨v9, -, hf⟩ := m_bndE hf
      obtain ⟨q4, hf⟩ := m_chkE hf
      obtain ⟨o10, ho, hf⟩ := m_calE hf
      have r_o10 := ro_X0_attacked ho
      have n_o10 : NQ o10.2 := by rw [r_o10]; exact n_o6
      have k_o10 : KE S o10.2 := by rw [r_o10]; exact k_o6
      clear ho
      rcases m_ifE hf with ⟨-, hf⟩ | ⟨-, hf⟩
      ·
        obtain ⟨n_9, k_9⟩ := ke_X7_isSafe_61  n_o10 w_x0 hf
        exact ⟨n_9, ke_t k_o10 k_9⟩
      ·
        obtain ⟨n_9, k_9⟩ := ke_X7_isSafe_59  n_o10  hf
        exact ⟨n_9, ke_t k_o10 k_9⟩
    ·
      obtain ⟨n_9, k_9⟩ := ke_X7_isSafe_59  n_o6  hf
      exact ⟨n_9, ke_t k_o6 k_9⟩
theorem ke_X7_isSafe {o : Int32 × ZS} {x0 : Nat} {x1 : Nat} {x2 : Int32} {S : ZS}  (hN : NQ S) (w_x0 : WS x0) (hf : f_X7_isSafe x0 x1 x2 S = some o) : NQ o.2 ∧ KE S o.2 := by
  unfold f_X7_isSafe at hf
  obtain ⟨n_9, k_9⟩ := ke_X7_isSafe_0  hN w_x0 hf
  exact ⟨n_9, ke_t ke_0 k_9⟩
theorem ke_X8_gather_155 {o : Int32 × ZS} {self38 : Nat → Nat → Int32 → Int32 → ZS → Option (Int32 × ZS)} {x0 : Nat} {x1 : Nat} {x2 : Int32} {x3 : Int32} {S : ZS} (hself38 : ∀ (z0 : Nat) (z1 : Nat) (z2 : Int32) (z3 : Int32) (S : ZS) (o : Int32 × ZS), WS z0 → NQ S → self38 z0 z1 z2 z3 S = some o → NQ o.2 ∧ KE S o.2) (hN : NQ S) (w_x0 : WS x0) (hf : f_X8_gather_155 self38 x0 x1 x2 x3 S = some o) : NQ o.2 ∧ KE S o.2 := by
  unfold f_X8_gather_155 at hf
  obtain ⟨v1, -, hf⟩ := m_bndE hf
  obtain ⟨n_9, k_9⟩ := hself38 _ _ _ _ _ _ w_x0 hN hf
  exact ⟨n_9, ke_t ke_0 k_9⟩
theorem ke_X8_gather_82 {o : Int32 × ZS} {self38 : Nat → Nat → Int32 → Int32 → ZS → Option (Int32 × ZS)} {x0 : Nat} {x1 : Nat} {x2 : Int32} {x3 : Int32} {t0 : Int32} {S : ZS} (hself38 : ∀ (z0 : Nat) (z1 : Nat) (z2 : Int32) (z3 : Int32) (S : ZS) (o : Int32 × ZS), WS z0 → NQ S → self38 z0 z1 z2 z3 S = some o → NQ o.2 ∧ KE S o.2) (hN : NQ S) (w_x0 : WS x0) (hf : f_X8_gather_82 self38 x0 x1 x2 x3 t0 S = some o) : NQ o.2 ∧ KE S o.2 := by
  unfold f_X8_gather_82 at hf
  obtain ⟨q1, hf⟩ := m_chkE hf
  obtain ⟨v1, -, hf⟩ := m_bndE hf
  obtain ⟨v2, -, hf⟩ := m_bndE hf
  obtain ⟨q2, hf⟩ := m_chkE hf
  obtain ⟨v3, -, hf⟩ := m_bndE hf
  obtain ⟨v4, -, hf⟩ := m_bndE hf
  rcases m_ifE hf with ⟨-, hf⟩ | ⟨-, hf⟩
  ·
    obtain ⟨n_9, k_9⟩ := ke_X8_gather_155 hself38 hN w_x0 hf
    exact ⟨n_9, ke_t ke_0 k_9⟩
  ·
    obtain ⟨q3, hf⟩ := m_chkE hf
    obtain ⟨q4, hf⟩ := m_chkE hf
    obtain ⟨o5, ho, hf⟩ := m_calE hf
    have r_o5 := ro_X0_reaches ho
    have n_o5 : NQ o5.2 := by rw [r_o5]; exact hN
    have k_o5 : KE S o5.2 := by rw [r_o5]; exact ke_0
    clear ho
    rcases m_ifE hf with ⟨-, hf⟩ | ⟨-, hf⟩
    ·
      obtain ⟨n_9, k_9⟩ := ke_X8_gather_155 hself38 n_o5 w_x0 hf
      exact ⟨n_9, ke_t k_o5 k_9⟩
    ·
      obtain ⟨q5, hf⟩ := m_chkE hf
      obtain ⟨b6, p_b6, hf⟩ := m_calE hf
      obtain ⟨q6, hf⟩ := m_chkE hf
      obtain ⟨o7, ho, hf⟩ := m_calE hf
      obtain ⟨n_o7, k_o7⟩ := ke_X7_isSafe n_o5 (nq_cl n_o5 q5 (by decide) (Or.inl w_x0) p_b6) ho
      replace k_o7 := ke_t k_o5 k_o7
      clear ho
      rcases m_ifE hf with ⟨-, hf⟩ | ⟨-, hf⟩
      ·
        obtain ⟨n_9, k_9⟩ := ke_X8_gather_155 hself38 n_o7 w_x0 hf
        exact ⟨n_9, ke_t k_o7 k_9⟩
      ·
        obtain ⟨q7, hf⟩ := m_chkE hf
        obtain ⟨b8, p_b8, hf⟩ := m_calE hf
        obtain ⟨q8, hf⟩ := m_chkE hf
        obtain ⟨q9, hf⟩ := m_chkE hf
        obtain ⟨q10, hf⟩ := m_chkE hf
        obtain ⟨S9, e11, hf⟩ := m_bndE hf
        obtain ⟨n_S9, k_S9⟩ := nk_A n_o7 (nq_cl n_o7 q8 (by decide) (Or.inl w_x0) p_b8) q9 e11
        replace k_S9 := ke_t k_o7 k_S9
        obtain ⟨q12, hf⟩ := m_chkE hf
        obtain ⟨v10, -, hf⟩ := m_bndE hf
        obtain ⟨q13, hf⟩ := m_chkE hf
        obtain ⟨S11, e14, hf⟩ := m_bndE hf
        obtain ⟨n_S11, k_S11⟩ := nk_I n_S9 w_x0 e14
        replace k_S11 := ke_t k_S9 k_S11
        obtain ⟨n_9, k_9⟩ := ke_X8_gather_155 hself38 n_S11 w_x0 hf
        exact ⟨n_9, ke_t k_S11 k_9⟩
theorem ke_X8_gather_72 {o : Int32 × ZS} {self38 : Nat → Nat → Int32 → Int32 → ZS → Option (Int32 × ZS)} {x0 : Nat} {x1 : Nat} {x2 : Int32} {x3 : Int32} {S : ZS} (hself38 : ∀ (z0 : Nat) (z1 : Nat) (z2 : Int32) (z3 : Int32) (S : ZS) (o : Int32 × ZS), WS z0 → NQ S → self38 z0 z1 z2 z3 S = some o → NQ o.2 ∧ KE S o.2) (hN : NQ S) (w_x0 : WS x0) (hf : f_X8_gather_72 self38 x0 x1 x2 x3 S = some o) : NQ o.2 ∧ KE S o.2 := by
  unfold f_X8_gather_72 at hf
  obtain ⟨n_9, k_9⟩ := ke_X8_gather_82 hself38 hN w_x0 hf
  exact ⟨n_9, ke_t ke_0 k_9⟩
theorem ke_X8_gather_38s {o : Int32 × ZS} {self38 : Nat → Nat → Int32 → Int32 → ZS → Option (Int32 × ZS)} {x0 : Nat} {x1 : Nat} {x2 : Int32} {x3 : Int32} {S : ZS} (hself38 : ∀ (z0 : Nat) (z1 : Nat) (z2 : Int32) (z3 : Int32) (S : ZS) (o : Int32 × ZS), WS z0 → NQ S → self38 z0 z1 z2 z3 S = some o → NQ o.2 ∧ KE S o.2) (hN : NQ S) (w_x0 : WS x0) (hf : f_X8_gather_38s self38 x0 x1 x2 x3 S = some o) : NQ o.2 ∧ KE S o.2 := by
  unfold f_X8_gather_38s at hf
  rcases m_ifE hf with ⟨-, hf⟩ | ⟨-, hf⟩
  ·
    cases hf
    exact ⟨hN, ke_0⟩
  ·
    obtain ⟨q1, hf⟩ := m_chkE hf
    rcases m_ifE hf with ⟨-, hf⟩ | ⟨-, hf⟩
    ·
      obtain ⟨q2, hf⟩ := m_chkE hf
      obtain ⟨o1, ho, hf⟩ := m_calE hf
      have r_o1 := ro_X8_fitsFrom ho
      have n_o1 : NQ o1.2 := by rw [r_o1]; exact hN
      have k_o1 : KE S o1.2 := by rw [r_o1]; exact ke_0
      clear ho
      obtain ⟨n_9, k_9⟩ := ke_X8_gather_82 hself38 n_o1 w_x0 hf
      exact ⟨n_9, ke_t k_o1 k_9⟩
    ·
      rcases m_ifE hf with ⟨-, hf⟩ | ⟨-, hf⟩
      ·
        obtain ⟨q3, hf⟩ := m_chkE hf
        obtain ⟨q4, hf⟩ := m_chkE hf
        obtain ⟨o2, ho, hf⟩ := m_calE hf
        have r_o2 := ro_X0_castles ho
        have n_o2 : NQ o2.2 := by rw [r_o2]; exact hN
        have k_o2 : KE S o2.2 := by rw [r_o2]; exact ke_0
        clear ho
        rcases m_ifE hf with ⟨-, hf⟩ | ⟨-, hf⟩
        ·
          obtain ⟨n_9, k_9⟩ := ke_X8_gather_72 hself38 n_o2 w_x0 hf
          exact ⟨n_9, ke_t k_o2 k_9⟩
        ·
          obtain ⟨n_9, k_9⟩ := ke_X8_gather_82 hself38 n_o2 w_x0 hf
          exact ⟨n_9, ke_t k_o2 k_9⟩
      ·
        obtain ⟨n_9, k_9⟩ := ke_X8_gather_72 hself38 hN w_x0 hf
        exact ⟨n_9, ke_t ke_0 k_9⟩
theorem ke_X8_gather_38   (n : Nat) : ∀ (y0 : Nat) (y1 : Nat) (y2 : Int32) (y3 : Int32) (S : ZS) (o : Int32 × ZS), WS y0 → NQ S → f_X8_gather_38  n y0 y1 y2 y3 S = some o → NQ o.2 ∧ KE S o.2 := by
  induction n with
  | zero => intro y0 y1 y2 y3 S o c0 hN hf; cases hf
  | succ n ih => intro y0 y1 y2 y3 S o c0 hN hf; exact ke_X8_gather_38s ih hN c0 hf
theorem ke_X8_gather_36 {o : Int32 × ZS} {x0 : Nat} {x1 : Nat} {x2 : Int32} {S : ZS}  (hN : NQ S) (w_x0 : WS x0) (hf : f_X8_gather_36 x0 x1 x2 S = some o) : NQ o.2 ∧ KE S o.2 := by
  unfold f_X8_gather_36 at hf
  obtain ⟨n_9, k_9⟩ := ke_X8_gather_38  _ _ _ _ _ _ _ w_x0 hN hf
  exact ⟨n_9, ke_t ke_0 k_9⟩
theorem ke_X8_gather_18 {o : Int32 × ZS} {x0 : Nat} {x1 : Nat} {t0 : Int32} {S : ZS}  (hN : NQ S) (w_x0 : WS x0) (hf : f_X8_gather_18 x0 x1 t0 S = some o) : NQ o.2 ∧ KE S o.2 := by
  unfold f_X8_gather_18 at hf
  obtain ⟨q1, hf⟩ := m_chkE hf
  rcases m_ifE hf with ⟨-, hf⟩ | ⟨-, hf⟩
  ·
    obtain ⟨n_9, k_9⟩ := ke_X8_gather_36  hN w_x0 hf
    exact ⟨n_9, ke_t ke_0 k_9⟩
  ·
    obtain ⟨q2, hf⟩ := m_chkE hf
    obtain ⟨v1, -, hf⟩ := m_bndE hf
    obtain ⟨q3, hf⟩ := m_chkE hf
    obtain ⟨S2, e4, hf⟩ := m_bndE hf
    obtain ⟨n_S2, k_S2⟩ := nk_I hN w_x0 e4
    replace k_S2 := ke_t ke_0 k_S2
    obtain ⟨n_9, k_9⟩ := ke_X8_gather_36  n_S2 w_x0 hf
    exact ⟨n_9, ke_t k_S2 k_9⟩
theorem ke_X8_gather_0 {o : Int32 × ZS} {x0 : Nat} {x1 : Nat} {S : ZS}  (hN : NQ S) (w_x0 : WS x0) (hf : f_X8_gather_0 x0 x1 S = some o) : NQ o.2 ∧ KE S o.2 := by
  unfold f_X8_gather_0 at hf
  obtain ⟨q1, hf⟩ := m_chkE hf
  obtain ⟨S1, e2, hf⟩ := m_bndE hf
  obtain ⟨n_S1, k_S1⟩ := nk_I hN w_x0 e2
  replace k_S1 := ke_t ke_0 k_S1
  obtain ⟨q3, hf⟩ := m_chkE hf
  rcases m_ifE hf with ⟨-, hf⟩ | ⟨-, hf⟩
  ·
    obtain ⟨n_9, k_9⟩ := ke_X8_gather_18  n_S1 w_x0 hf
    exact ⟨n_9, ke_t k_S1 k_9⟩
  ·
    obtain ⟨n_9, k_9⟩ := ke_X8_gather_18  n_S1 w_x0 hf
    exact ⟨n_9, ke_t k_S1 k_9⟩
theorem ke_X8_gather {o : Int32 × ZS} {x0 : Nat} {x1 : Nat} {S : ZS}  (hN : NQ S) (w_x0 : WS x0) (hf : f_X8_gather x0 x1 S = some o) : NQ o.2 ∧ KE S o.2 := by
  unfold f_X8_gather at hf
  obtain ⟨n_9, k_9⟩ := ke_X8_gather_0  hN w_x0 hf
  exact ⟨n_9, ke_t ke_0 k_9⟩
theorem ke_X7_checkSign_103 {o : Int32 × ZS} {self53 : Nat → Int32 → ZS → Option (Int32 × ZS)} {self62 : Nat → Int32 → Int32 → ZS → Option (Int32 × ZS)} {x0 : Nat} {x3 : Int32} {x4 : Int32} {S : ZS} (hself53 : ∀ (z0 : Nat) (z1 : Int32) (S : ZS) (o : Int32 × ZS), WS z0 → NQ S → self53 z0 z1 S = some o → NQ o.2 ∧ KE S o.2) (hself62 : ∀ (z0 : Nat) (z1 : Int32) (z2 : Int32) (S : ZS) (o : Int32 × ZS), WS z0 → NQ S → self62 z0 z1 z2 S = some o → NQ o.2 ∧ KE S o.2) (hN : NQ S) (w_x0 : WS x0) (hf : f_X7_checkSign_103 self53 self62 x0 x3 x4 S = some o) : NQ o.2 ∧ KE S o.2 := by
  unfold f_X7_checkSign_103 at hf
  obtain ⟨v1, -, hf⟩ := m_bndE hf
  obtain ⟨n_9, k_9⟩ := hself62 _ _ _ _ _ w_x0 hN hf
  exact ⟨n_9, ke_t ke_0 k_9⟩
theorem ke_X7_checkSign_62s {o : Int32 × ZS} {self53 : Nat → Int32 → ZS → Option (Int32 × ZS)} {self62 : Nat → Int32 → Int32 → ZS → Option (Int32 × ZS)} {x0 : Nat} {x3 : Int32} {x4 : Int32} {S : ZS} (hself53 : ∀ (z0 : Nat) (z1 : Int32) (S : ZS) (o : Int32 × ZS), WS z0 → NQ S → self53 z0 z1 S = some o → NQ o.2 ∧ KE S o.2) (hself62 : ∀ (z0 : Nat) (z1 : Int32) (z2 : Int32) (S : ZS) (o : Int32 × ZS), WS z0 → NQ S → self62 z0 z1 z2 S = some o → NQ o.2 ∧ KE S o.2) (hN : NQ S) (w_x0 : WS x0) (hf : f_X7_checkSign_62s self53 self62 x0 x3 x4 S = some o) : NQ o.2 ∧ KE S o.2 := by
  unfold f_X7_checkSign_62s at hf
  rcases m_ifE hf with ⟨-, hf⟩ | ⟨-, hf⟩
  ·
    obtain ⟨v1, -, hf⟩ := m_bndE hf
    obtain ⟨n_9, k_9⟩ := hself53 _ _ _ _ w_x0 hN hf
    exact ⟨n_9, ke_t ke_0 k_9⟩
  ·
    obtain ⟨q1, hf⟩ := m_chkE hf
    obtain ⟨b2, p_b2, hf⟩ := m_calE hf
    obtain ⟨q2, hf⟩ := m_chkE hf
    obtain ⟨o3, ho, hf⟩ := m_calE hf
    have r_o3 := ro_X0_reaches ho
    have n_o3 : NQ o3.2 := by rw [r_o3]; exact hN
    have k_o3 : KE S o3.2 := by rw [r_o3]; exact ke_0
    clear ho
    rcases m_ifE hf with ⟨-, hf⟩ | ⟨-, hf⟩
    ·
      obtain ⟨n_9, k_9⟩ := ke_X7_checkSign_103 hself53 hself62 n_o3 w_x0 hf
      exact ⟨n_9, ke_t k_o3 k_9⟩
    ·
      obtain ⟨q3, hf⟩ := m_chkE hf
      obtain ⟨b4, p_b4, hf⟩ := m_calE hf
      obtain ⟨v5, -, hf⟩ := m_bndE hf
      obtain ⟨v6, -, hf⟩ := m_bndE hf
      obtain ⟨q4, hf⟩ := m_chkE hf
      obtain ⟨o7, ho, hf⟩ := m_calE hf
      obtain ⟨n_o7, k_o7⟩ := ke_X7_isSafe n_o3 w_x0 ho
      replace k_o7 := ke_t k_o3 k_o7
      clear ho
      rcases m_ifE hf with ⟨-, hf⟩ | ⟨-, hf⟩
      ·
        obtain ⟨n_9, k_9⟩ := ke_X7_checkSign_103 hself53 hself62 n_o7 w_x0 hf
        exact ⟨n_9, ke_t k_o7 k_9⟩
      ·
        obtain ⟨-, hf⟩ := m_chkE hf
        cases hf
        exact ⟨n_o7, k_o7⟩
theorem ke_X7_checkSign_62 {self53 : Nat → Int32 → ZS → Option (Int32 × ZS)} (hself53 : ∀ (z0 : Nat) (z1 : Int32) (S : ZS) (o : Int32 × ZS), WS z0 → NQ S → self53 z0 z1 S = some o → NQ o.2 ∧ KE S o.2) (n : Nat) : ∀ (y0 : Nat) (y1 : Int32) (y2 : Int32) (S : ZS) (o : Int32 × ZS), WS y0 → NQ S → f_X7_checkSign_62 self53 n y0 y1 y2 S = some o → NQ o.2 ∧ KE S o.2 := by
  induction n with
  | zero => intro y0 y1 y2 S o c0 hN hf; cases hf
  | succ n ih => intro y0 y1 y2 S o c0 hN hf; exact ke_X7_checkSign_62s hself53 ih hN c0 hf
theorem ke_X7_checkSign_53s {o : Int32 × ZS} {self53 : Nat → Int32 → ZS → Option (Int32 × ZS)} {x0 : Nat} {x3 : Int32} {S : ZS} (hself53 : ∀ (z0 : Nat) (z1 : Int32) (S : ZS) (o : Int32 × ZS), WS z0 → NQ S → self53 z0 z1 S = some o → NQ o.2 ∧ KE S o.2) (hN : NQ S) (w_x0 : WS x0) (hf : f_X7_checkSign_53s self53 x0 x3 S = some o) : NQ o.2 ∧ KE S o.2 := by
  unfold f_X7_checkSign_53s at hf
  rcases m_ifE hf with ⟨-, hf⟩ | ⟨-, hf⟩
  ·
    obtain ⟨-, hf⟩ := m_chkE hf
    cases hf
    exact ⟨hN, ke_0⟩
  ·
    obtain ⟨n_9, k_9⟩ := ke_X7_checkSign_62 hself53 _ _ _ _ _ _ w_x0 hN hf
    exact ⟨n_9, ke_t ke_0 k_9⟩
theorem ke_X7_checkSign_53   (n : Nat) : ∀ (y0 : Nat) (y1 : Int32) (S : ZS) (o : Int32 × ZS), WS y0 → NQ S → f_X7_checkSign_53  n y0 y1 S = some o → NQ o.2 ∧ KE S o.2 := by
  induction n with
  | zero => intro y0 y1 S o c0 hN hf; cases hf
  | succ n ih => intro y0 y1 S o c0 hN hf; exact ke_X7_checkSign_53s ih hN c0 hf
theorem ke_X7_checkSign_0 {o : Int32 × ZS} {x0 : Nat} {x1 : Nat} {x2 : Int32} {S : ZS}  (hN : NQ S) (w_x0 : WS x0) (hf : f_X7_checkSign_0 x0 x1 x2 S = some o) : NQ o.2 ∧ KE S o.2 := by
  unfold f_X7_checkSign_0 at hf
  obtain ⟨q1, hf⟩ := m_chkE hf
  obtain ⟨b1, p_b1, hf⟩ := m_calE hf
  obtain ⟨q2, hf⟩ := m_chkE hf
  obtain ⟨o2, ho, hf⟩ := m_calE hf
  obtain ⟨n_o2, k_o2⟩ := ke_X0_copyFrom hN (nq_cl hN q1 (by decide) (Or.inl w_x0) p_b1) ho
  replace k_o2 := ke_t ke_0 k_o2
  clear ho
  obtain ⟨q3, hf⟩ := m_chkE hf
  obtain ⟨b3, p_b3, hf⟩ := m_calE hf
  obtain ⟨q4, hf⟩ := m_chkE hf
  obtain ⟨o4, ho, hf⟩ := m_calE hf
  obtain ⟨n_o4, k_o4⟩ := ke_X0_play n_o2 (nq_cl n_o2 q3 (by decide) (Or.inl w_x0) p_b3) ho
  replace k_o4 := ke_t k_o2 k_o4
  clear ho
  obtain ⟨q5, hf⟩ := m_chkE hf
  obtain ⟨b5, p_b5, hf⟩ := m_calE hf
  obtain ⟨q6, hf⟩ := m_chkE hf
  obtain ⟨b6, p_b6, hf⟩ := m_calE hf
  obtain ⟨q7, hf⟩ := m_chkE hf
  obtain ⟨b7, p_b7, hf⟩ := m_calE hf
  obtain ⟨q8, hf⟩ := m_chkE hf
  obtain ⟨q9, hf⟩ := m_chkE hf
  obtain ⟨o8, ho, hf⟩ := m_calE hf
  have r_o8 := ro_X0_kingOf ho
  have n_o8 : NQ o8.2 := by rw [r_o8]; exact n_o4
  have k_o8 : KE S o8.2 := by rw [r_o8]; exact k_o4
  clear ho
  obtain ⟨q10, hf⟩ := m_chkE hf
  obtain ⟨b9, p_b9, hf⟩ := m_calE hf
  obtain ⟨q11, hf⟩ := m_chkE hf
  obtain ⟨v10, -, hf⟩ := m_bndE hf
  obtain ⟨q12, hf⟩ := m_chkE hf
  obtain ⟨o11, ho, hf⟩ := m_calE hf
  have r_o11 := ro_X0_attacked ho
  have n_o11 : NQ o11.2 := by rw [r_o11]; exact n_o8
  have k_o11 : KE S o11.2 := by rw [r_o11]; exact k_o8
  clear ho
  rcases m_ifE hf with ⟨-, hf⟩ | ⟨-, hf⟩
  ·
    obtain ⟨-, hf⟩ := m_chkE hf
    cases hf
    exact ⟨n_o11, k_o11⟩
  ·
    obtain ⟨n_9, k_9⟩ := ke_X7_checkSign_53  _ _ _ _ _ w_x0 n_o11 hf
    exact ⟨n_9, ke_t k_o11 k_9⟩
theorem ke_X7_checkSign {o : Int32 × ZS} {x0 : Nat} {x1 : Nat} {x2 : Int32} {S : ZS}  (hN : NQ S) (w_x0 : WS x0) (hf : f_X7_checkSign x0 x1 x2 S = some o) : NQ o.2 ∧ KE S o.2 := by
  unfold f_X7_checkSign at hf
  obtain ⟨n_9, k_9⟩ := ke_X7_checkSign_0  hN w_x0 hf
  exact ⟨n_9, ke_t ke_0 k_9⟩
theorem ke_X7_isLegal_47 {o : Int32 × ZS} {S : ZS}  (hN : NQ S)  (hf : f_X7_isLegal_47 S = some o) : NQ o.2 ∧ KE S o.2 := by
  unfold f_X7_isLegal_47 at hf
  obtain ⟨-, hf⟩ := m_chkE hf
  cases hf
  exact ⟨hN, ke_0⟩
theorem ke_X7_isLegal_83 {o : Int32 × ZS} {t0 : Int32} {S : ZS}  (hN : NQ S)  (hf : f_X7_isLegal_83 t0 S = some o) : NQ o.2 ∧ KE S o.2 := by
  unfold f_X7_isLegal_83 at hf
  obtain ⟨-, hf⟩ := m_chkE hf
  cases hf
  exact ⟨hN, ke_0⟩
theorem ke_X7_isLegal_82 {o : Int32 × ZS} {S : ZS}  (hN : NQ S)  (hf : f_X7_isLegal_82 S = some o) : NQ o.2 ∧ KE S o.2 := by
  unfold f_X7_isLegal_82 at hf
  obtain ⟨n_9, k_9⟩ := ke_X7_isLegal_83  hN  hf
  exact ⟨n_9, ke_t ke_0 k_9⟩
theorem ke_X7_isLegal_66 {o : Int32 × ZS} {x0 : Nat} {x1 : Nat} {x2 : Int32} {t0 : Int32} {t1 : Int32} {S : ZS}  (hN : NQ S) (w_x0 : WS x0) (hf : f_X7_isLegal_66 x0 x1 x2 t0 t1 S = some o) : NQ o.2 ∧ KE S o.2 := by
  unfold f_X7_isLegal_66 at hf
  rcases m_ifE hf with ⟨-, hf⟩ | ⟨-, hf⟩
  ·
    obtain ⟨q1, hf⟩ := m_chkE hf
    obtain ⟨o1, ho, hf⟩ := m_calE hf
    obtain ⟨n_o1, k_o1⟩ := ke_X7_isSafe hN w_x0 ho
    replace k_o1 := ke_t ke_0 k_o1
    clear ho
    rcases m_ifE hf with ⟨-, hf⟩ | ⟨-, hf⟩
    ·
      obtain ⟨n_9, k_9⟩ := ke_X7_isLegal_82  n_o1  hf
      exact ⟨n_9, ke_t k_o1 k_9⟩
    ·
      obtain ⟨n_9, k_9⟩ := ke_X7_isLegal_83  n_o1  hf
      exact ⟨n_9, ke_t k_o1 k_9⟩
  ·
    obtain ⟨n_9, k_9⟩ := ke_X7_isLegal_82  hN  hf
    exact ⟨n_9, ke_t ke_0 k_9⟩
theorem ke_X7_isLegal_0 {o : Int32 × ZS} {x0 : Nat} {x1 : Nat} {x2 : Int32} {S : ZS}  (hN : NQ S) (w_x0 : WS x0) (hf : f_X7_isLegal_0 x0 x1 x2 S = some o) : NQ o.2 ∧ KE S o.2 := by
  unfold f_X7_isLegal_0 at hf
  obtain ⟨v1, -, hf⟩ := m_bndE hf
  obtain ⟨v2, -, hf⟩ := m_bndE hf
  obtain ⟨v3, -, hf⟩ := m_bndE hf
  obtain ⟨v4, -, hf⟩ := m_bndE hf
  rcases m_ifE hf with ⟨-, hf⟩ | ⟨-, hf⟩
  ·
    obtain ⟨n_9, k_9⟩ := ke_X7_isLegal_47  hN  hf
    exact ⟨n_9, ke_t ke_0 k_9⟩
  ·
    rcases m_ifE hf with ⟨-, hf⟩ | ⟨-, hf⟩
    ·
      obtain ⟨n_9, k_9⟩ := ke_X7_isLegal_47  hN  hf
      exact ⟨n_9, ke_t ke_0 k_9⟩
    ·
      rcases m_ifE hf with ⟨-, hf⟩ | ⟨-, hf⟩
      ·
        obtain ⟨n_9, k_9⟩ := ke_X7_isLegal_47  hN  hf
        exact ⟨n_9, ke_t ke_0 k_9⟩
      ·
        obtain ⟨q1, hf⟩ := m_chkE hf
        obtain ⟨o5, ho, hf⟩ := m_calE hf
        have r_o5 := ro_X0_reaches ho
        have n_o5 : NQ o5.2 := by rw [r_o5]; exact hN
        have k_o5 : KE S o5.2 := by rw [r_o5]; exact ke_0
        clear ho
        rcases m_ifE hf with ⟨-, hf⟩ | ⟨-, hf⟩
        ·
          obtain ⟨n_9, k_9⟩ := ke_X7_isLegal_47  n_o5  hf
          exact ⟨n_9, ke_t k_o5 k_9⟩
        ·
          obtain ⟨q2, hf⟩ := m_chkE hf
          obtain ⟨o6, ho, hf⟩ := m_calE hf
          have r_o6 := ro_X0_becomesAnother ho
          have n_o6 : NQ o6.2 := by rw [r_o6]; exact n_o5
          have k_o6 : KE S o6.2 := by rw [r_o6]; exact k_o5
          clear ho
          rcases m_ifE hf with ⟨-, hf⟩ | ⟨-, hf⟩
          ·
            obtain ⟨n_9, k_9⟩ := ke_X7_isLegal_66  n_o6 w_x0 hf
            exact ⟨n_9, ke_t k_o6 k_9⟩
          ·
            obtain ⟨n_9, k_9⟩ := ke_X7_isLegal_66  n_o6 w_x0 hf
            exact ⟨n_9, ke_t k_o6 k_9⟩
theorem ke_X7_isLegal {o : Int32 × ZS} {x0 : Nat} {x1 : Nat} {x2 : Int32} {S : ZS}  (hN : NQ S) (w_x0 : WS x0) (hf : f_X7_isLegal x0 x1 x2 S = some o) : NQ o.2 ∧ KE S o.2 := by
  unfold f_X7_isLegal at hf
  obtain ⟨n_9, k_9⟩ := ke_X7_isLegal_0  hN w_x0 hf
  exact ⟨n_9, ke_t ke_0 k_9⟩
theorem ke_X7_legalMove_110 {o : Int32 × ZS} {self11 : Nat → Nat → Int32 → Int32 → ZS → Option (Int32 × ZS)} {self21 : Nat → Nat → Int32 → Int32 → Int32 → ZS → Option (Int32 × ZS)} {x0 : Nat} {x1 : Nat} {x3 : Int32} {x4 : Int32} {x5 : Int32} {S : ZS} (hself11 : ∀ (z0 : Nat) (z1 : Nat) (z2 : Int32) (z3 : Int32) (S : ZS) (o : Int32 × ZS), WS z0 → NQ S → self11 z0 z1 z2 z3 S = some o → NQ o.2 ∧ KE S o.2) (hself21 : ∀ (z0 : Nat) (z1 : Nat) (z2 : Int32) (z3 : Int32) (z4 : Int32) (S : ZS) (o : Int32 × ZS), WS z0 → NQ S → self21 z0 z1 z2 z3 z4 S = some o → NQ o.2 ∧ KE S o.2) (hN : NQ S) (w_x0 : WS x0) (hf : f_X7_legalMove_110 self11 self21 x0 x1 x3 x4 x5 S = some o) : NQ o.2 ∧ KE S o.2 := by
  unfold f_X7_legalMove_110 at hf
  obtain ⟨v1, -, hf⟩ := m_bndE hf
  obtain ⟨n_9, k_9⟩ := hself21 _ _ _ _ _ _ _ w_x0 hN hf
  exact ⟨n_9, ke_t ke_0 k_9⟩
theorem ke_X7_legalMove_104 {o : Int32 × ZS} {t0 : Int32} {S : ZS}  (hN : NQ S)  (hf : f_X7_legalMove_104 t0 S = some o) : NQ o.2 ∧ KE S o.2 := by
  unfold f_X7_legalMove_104 at hf
  cases hf
  exact ⟨hN, ke_0⟩
theorem ke_X7_legalMove_75 {o : Int32 × ZS} {self11 : Nat → Nat → Int32 → Int32 → ZS → Option (Int32 × ZS)} {self21 : Nat → Nat → Int32 → Int32 → Int32 → ZS → Option (Int32 × ZS)} {x0 : Nat} {x1 : Nat} {x3 : Int32} {x4 : Int32} {x5 : Int32} {x6 : Int32} {t0 : Int32} {S : ZS} (hself11 : ∀ (z0 : Nat) (z1 : Nat) (z2 : Int32) (z3 : Int32) (S : ZS) (o : Int32 × ZS), WS z0 → NQ S → self11 z0 z1 z2 z3 S = some o → NQ o.2 ∧ KE S o.2) (hself21 : ∀ (z0 : Nat) (z1 : Nat) (z2 : Int32) (z3 : Int32) (z4 : Int32) (S : ZS) (o : Int32 × ZS), WS z0 → NQ S → self21 z0 z1 z2 z3 z4 S = some o → NQ o.2 ∧ KE S o.2) (hN : NQ S) (w_x0 : WS x0) (hf : f_X7_legalMove_75 self11 self21 x0 x1 x3 x4 x5 x6 t0 S = some o) : NQ o.2 ∧ KE S o.2 := by
  unfold f_X7_legalMove_75 at hf
  rcases m_ifE hf with ⟨-, hf⟩ | ⟨-, hf⟩
  ·
    obtain ⟨v1, -, hf⟩ := m_bndE hf
    obtain ⟨n_9, k_9⟩ := ke_X7_legalMove_110 hself11 hself21 hN w_x0 hf
    exact ⟨n_9, ke_t ke_0 k_9⟩
  ·
    rcases m_ifE hf with ⟨-, hf⟩ | ⟨-, hf⟩
    ·
      obtain ⟨n_9, k_9⟩ := ke_X7_legalMove_104  hN  hf
      exact ⟨n_9, ke_t ke_0 k_9⟩
    ·
      obtain ⟨v2, -, hf⟩ := m_bndE hf
      obtain ⟨v3, -, hf⟩ := m_bndE hf
      obtain ⟨v4, -, hf⟩ := m_bndE hf
      obtain ⟨n_9, k_9⟩ := ke_X7_legalMove_104  hN  hf
      exact ⟨n_9, ke_t ke_0 k_9⟩
theorem ke_X7_legalMove_21s {o : Int32 × ZS} {self11 : Nat → Nat → Int32 → Int32 → ZS → Option (Int32 × ZS)} {self21 : Nat → Nat → Int32 → Int32 → Int32 → ZS → Option (Int32 × ZS)} {x0 : Nat} {x1 : Nat} {x3 : Int32} {x4 : Int32} {x5 : Int32} {S : ZS} (hself11 : ∀ (z0 : Nat) (z1 : Nat) (z2 : Int32) (z3 : Int32) (S : ZS) (o : Int32 × ZS), WS z0 → NQ S → self11 z0 z1 z2 z3 S = some o → NQ o.2 ∧ KE S o.2) (hself21 : ∀ (z0 : Nat) (z1 : Nat) (z2 : Int32) (z3 : Int32) (z4 : Int32) (S : ZS) (o : Int32 × ZS), WS z0 → NQ S → self21 z0 z1 z2 z3 z4 S = some o → NQ o.2 ∧ KE S o.2) (hN : NQ S) (w_x0 : WS x0) (hf : f_X7_legalMove_21s self11 self21 x0 x1 x3 x4 x5 S = some o) : NQ o.2 ∧ KE S o.2 := by
  unfold f_X7_legalMove_21s at hf
  rcases m_ifE hf with ⟨-, hf⟩ | ⟨-, hf⟩
  ·
    obtain ⟨v1, -, hf⟩ := m_bndE hf
    obtain ⟨n_9, k_9⟩ := hself11 _ _ _ _ _ _ w_x0 hN hf
    exact ⟨n_9, ke_t ke_0 k_9⟩
  ·
    obtain ⟨v2, -, hf⟩ := m_bndE hf
    obtain ⟨v3, -, hf⟩ := m_bndE hf
    obtain ⟨q1, hf⟩ := m_chkE hf
    obtain ⟨o4, ho, hf⟩ := m_calE hf
    have r_o4 := ro_X0_reaches ho
    have n_o4 : NQ o4.2 := by rw [r_o4]; exact hN
    have k_o4 : KE S o4.2 := by rw [r_o4]; exact ke_0
    clear ho
    rcases m_ifE hf with ⟨-, hf⟩ | ⟨-, hf⟩
    ·
      obtain ⟨n_9, k_9⟩ := ke_X7_legalMove_110 hself11 hself21 n_o4 w_x0 hf
      exact ⟨n_9, ke_t k_o4 k_9⟩
    ·
      obtain ⟨q2, hf⟩ := m_chkE hf
      obtain ⟨o5, ho, hf⟩ := m_calE hf
      obtain ⟨n_o5, k_o5⟩ := ke_X7_isSafe n_o4 w_x0 ho
      replace k_o5 := ke_t k_o4 k_o5
      clear ho
      rcases m_ifE hf with ⟨-, hf⟩ | ⟨-, hf⟩
      ·
        obtain ⟨n_9, k_9⟩ := ke_X7_legalMove_110 hself11 hself21 n_o5 w_x0 hf
        exact ⟨n_9, ke_t k_o5 k_9⟩
      ·
        obtain ⟨q3, hf⟩ := m_chkE hf
        obtain ⟨o6, ho, hf⟩ := m_calE hf
        have r_o6 := ro_X0_becomesAnother ho
        have n_o6 : NQ o6.2 := by rw [r_o6]; exact n_o5
        have k_o6 : KE S o6.2 := by rw [r_o6]; exact k_o5
        clear ho
        rcases m_ifE hf with ⟨-, hf⟩ | ⟨-, hf⟩
        ·
          obtain ⟨n_9, k_9⟩ := ke_X7_legalMove_75 hself11 hself21 n_o6 w_x0 hf
          exact ⟨n_9, ke_t k_o6 k_9⟩
        ·
          obtain ⟨n_9, k_9⟩ := ke_X7_legalMove_75 hself11 hself21 n_o6 w_x0 hf
          exact ⟨n_9, ke_t k_o6 k_9⟩
theorem ke_X7_legalMove_21 {self11 : Nat → Nat → Int32 → Int32 → ZS → Option (Int32 × ZS)} (hself11 : ∀ (z0 : Nat) (z1 : Nat) (z2 : Int32) (z3 : Int32) (S : ZS) (o : Int32 × ZS), WS z0 → NQ S → self11 z0 z1 z2 z3 S = some o → NQ o.2 ∧ KE S o.2) (n : Nat) : ∀ (y0 : Nat) (y1 : Nat) (y2 : Int32) (y3 : Int32) (y4 : Int32) (S : ZS) (o : Int32 × ZS), WS y0 → NQ S → f_X7_legalMove_21 self11 n y0 y1 y2 y3 y4 S = some o → NQ o.2 ∧ KE S o.2 := by
  induction n with
  | zero => intro y0 y1 y2 y3 y4 S o c0 hN hf; cases hf
  | succ n ih => intro y0 y1 y2 y3 y4 S o c0 hN hf; exact ke_X7_legalMove_21s hself11 ih hN c0 hf
theorem ke_X7_legalMove_11s {o : Int32 × ZS} {self11 : Nat → Nat → Int32 → Int32 → ZS → Option (Int32 × ZS)} {x0 : Nat} {x1 : Nat} {x3 : Int32} {x4 : Int32} {S : ZS} (hself11 : ∀ (z0 : Nat) (z1 : Nat) (z2 : Int32) (z3 : Int32) (S : ZS) (o : Int32 × ZS), WS z0 → NQ S → self11 z0 z1 z2 z3 S = some o → NQ o.2 ∧ KE S o.2) (hN : NQ S) (w_x0 : WS x0) (hf : f_X7_legalMove_11s self11 x0 x1 x3 x4 S = some o) : NQ o.2 ∧ KE S o.2 := by
  unfold f_X7_legalMove_11s at hf
  rcases m_ifE hf with ⟨-, hf⟩ | ⟨-, hf⟩
  ·
    cases hf
    exact ⟨hN, ke_0⟩
  ·
    obtain ⟨n_9, k_9⟩ := ke_X7_legalMove_21 hself11 _ _ _ _ _ _ _ _ w_x0 hN hf
    exact ⟨n_9, ke_t ke_0 k_9⟩
theorem ke_X7_legalMove_11   (n : Nat) : ∀ (y0 : Nat) (y1 : Nat) (y2 : Int32) (y3 : Int32) (S : ZS) (o : Int32 × ZS), WS y0 → NQ S → f_X7_legalMove_11  n y0 y1 y2 y3 S = some o → NQ o.2 ∧ KE S o.2 := by
  induction n with
  | zero => intro y0 y1 y2 y3 S o c0 hN hf; cases hf
  | succ n ih => intro y0 y1 y2 y3 S o c0 hN hf; exact ke_X7_legalMove_11s ih hN c0 hf
theorem ke_X7_legalMove_0 {o : Int32 × ZS} {x0 : Nat} {x1 : Nat} {x2 : Int32} {S : ZS}  (hN : NQ S) (w_x0 : WS x0) (hf : f_X7_legalMove_0 x0 x1 x2 S = some o) : NQ o.2 ∧ KE S o.2 := by
  unfold f_X7_legalMove_0 at hf
  rcases m_ifE hf with ⟨-, hf⟩ | ⟨-, hf⟩
  ·
    obtain ⟨n_9, k_9⟩ := ke_X7_legalMove_11  _ _ _ _ _ _ _ w_x0 hN hf
    exact ⟨n_9, ke_t ke_0 k_9⟩
  ·
    cases hf
    exact ⟨hN, ke_0⟩
theorem ke_X7_legalMove {o : Int32 × ZS} {x0 : Nat} {x1 : Nat} {x2 : Int32} {S : ZS}  (hN : NQ S) (w_x0 : WS x0) (hf : f_X7_legalMove x0 x1 x2 S = some o) : NQ o.2 ∧ KE S o.2 := by
  unfold f_X7_legalMove at hf
  obtain ⟨n_9, k_9⟩ := ke_X7_legalMove_0  hN w_x0 hf
  exact ⟨n_9, ke_t ke_0 k_9⟩
theorem ke_X11_out_0 {o : Int32 × ZS} {x0 : Nat} {x1 : Int32} {S : ZS}  (hN : NQ S)  (hf : f_X11_out_0 x0 x1 S = some o) : NQ o.2 ∧ KE S o.2 := by
  unfold f_X11_out_0 at hf
  obtain ⟨q1, hf⟩ := m_chkE hf
  obtain ⟨b1, p_b1, hf⟩ := m_calE hf
  obtain ⟨q2, hf⟩ := m_chkE hf
  obtain ⟨o2, ho, hf⟩ := m_calE hf
  have r_o2 := ro_X6_at ho
  have n_o2 : NQ o2.2 := by rw [r_o2]; exact hN
  have k_o2 : KE S o2.2 := by rw [r_o2]; exact ke_0
  clear ho
  cases hf
  exact ⟨n_o2, k_o2⟩
theorem ke_X11_out {o : Int32 × ZS} {x0 : Nat} {x1 : Int32} {S : ZS}  (hN : NQ S)  (hf : f_X11_out x0 x1 S = some o) : NQ o.2 ∧ KE S o.2 := by
  unfold f_X11_out at hf
  obtain ⟨n_9, k_9⟩ := ke_X11_out_0  hN  hf
  exact ⟨n_9, ke_t ke_0 k_9⟩
theorem ke_X11_nodes_0 {o : Int32 × ZS} {x0 : Nat} {S : ZS}  (hN : NQ S)  (hf : f_X11_nodes_0 x0 S = some o) : NQ o.2 ∧ KE S o.2 := by
  unfold f_X11_nodes_0 at hf
  obtain ⟨q1, hf⟩ := m_chkE hf
  obtain ⟨b1, p_b1, hf⟩ := m_calE hf
  obtain ⟨q2, hf⟩ := m_chkE hf
  cases hf
  exact ⟨hN, ke_0⟩
theorem ke_X11_nodes {o : Int32 × ZS} {x0 : Nat} {S : ZS}  (hN : NQ S)  (hf : f_X11_nodes x0 S = some o) : NQ o.2 ∧ KE S o.2 := by
  unfold f_X11_nodes at hf
  obtain ⟨n_9, k_9⟩ := ke_X11_nodes_0  hN  hf
  exact ⟨n_9, ke_t ke_0 k_9⟩
theorem ke_X11_here_0 {o : Int32 × ZS} {x0 : Nat} {S : ZS}  (hN : NQ S)  (hf : f_X11_here_0 x0 S = some o) : NQ o.2 ∧ KE S o.2 := by
  unfold f_X11_here_0 at hf
  obtain ⟨q1, hf⟩ := m_chkE hf
  cases hf
  exact ⟨hN, ke_0⟩
theorem ke_X11_here {o : Int32 × ZS} {x0 : Nat} {S : ZS}  (hN : NQ S)  (hf : f_X11_here x0 S = some o) : NQ o.2 ∧ KE S o.2 := by
  unfold f_X11_here at hf
  obtain ⟨n_9, k_9⟩ := ke_X11_here_0  hN  hf
  exact ⟨n_9, ke_t ke_0 k_9⟩
theorem ke_X11_move_0 {o : Int32 × ZS} {x0 : Nat} {x1 : Int32} {S : ZS}  (hN : NQ S) (u_x0 : x0 = 1) (hf : f_X11_move_0 x0 x1 S = some o) : NQ o.2 ∧ KE S o.2 := by
  unfold f_X11_move_0 at hf
  obtain ⟨q1, hf⟩ := m_chkE hf
  obtain ⟨b1, p_b1, hf⟩ := m_calE hf
  obtain ⟨q2, hf⟩ := m_chkE hf
  obtain ⟨b2, p_b2, hf⟩ := m_calE hf
  obtain ⟨q3, hf⟩ := m_chkE hf
  obtain ⟨o3, ho, hf⟩ := m_calE hf
  obtain ⟨n_o3, k_o3⟩ := ke_X7_legalMove hN (nq_cl hN q2 (by decide) (Or.inr u_x0) p_b1) ho
  replace k_o3 := ke_t ke_0 k_o3
  clear ho
  cases hf
  exact ⟨n_o3, k_o3⟩
theorem ke_X11_move {o : Int32 × ZS} {x0 : Nat} {x1 : Int32} {S : ZS}  (hN : NQ S) (u_x0 : x0 = 1) (hf : f_X11_move x0 x1 S = some o) : NQ o.2 ∧ KE S o.2 := by
  unfold f_X11_move at hf
  obtain ⟨n_9, k_9⟩ := ke_X11_move_0  hN u_x0 hf
  exact ⟨n_9, ke_t ke_0 k_9⟩
theorem ke_X11_result_0 {o : Int32 × ZS} {x0 : Nat} {S : ZS}  (hN : NQ S)  (hf : f_X11_result_0 x0 S = some o) : NQ o.2 ∧ KE S o.2 := by
  unfold f_X11_result_0 at hf
  obtain ⟨q1, hf⟩ := m_chkE hf
  obtain ⟨b1, p_b1, hf⟩ := m_calE hf
  obtain ⟨q2, hf⟩ := m_chkE hf
  cases hf
  exact ⟨hN, ke_0⟩
theorem ke_X11_result {o : Int32 × ZS} {x0 : Nat} {S : ZS}  (hN : NQ S)  (hf : f_X11_result x0 S = some o) : NQ o.2 ∧ KE S o.2 := by
  unfold f_X11_result at hf
  obtain ⟨n_9, k_9⟩ := ke_X11_result_0  hN  hf
  exact ⟨n_9, ke_t ke_0 k_9⟩
theorem ke_X11_tags_0 {o : Int32 × ZS} {x0 : Nat} {S : ZS}  (hN : NQ S)  (hf : f_X11_tags_0 x0 S = some o) : NQ o.2 ∧ KE S o.2 := by
  unfold f_X11_tags_0 at hf
  obtain ⟨q1, hf⟩ := m_chkE hf
  obtain ⟨b1, p_b1, hf⟩ := m_calE hf
  obtain ⟨q2, hf⟩ := m_chkE hf
  cases hf
  exact ⟨hN, ke_0⟩
theorem ke_X11_tags {o : Int32 × ZS} {x0 : Nat} {S : ZS}  (hN : NQ S)  (hf : f_X11_tags x0 S = some o) : NQ o.2 ∧ KE S o.2 := by
  unfold f_X11_tags at hf
  obtain ⟨n_9, k_9⟩ := ke_X11_tags_0  hN  hf
  exact ⟨n_9, ke_t ke_0 k_9⟩
theorem ke_X6_putAll_2s {o : Int32 × ZS} {self2 : Nat → Nat → Int32 → ZS → Option (Int32 × ZS)} {x0 : Nat} {x1 : Nat} {x2 : Int32} {S : ZS} (hself2 : ∀ (z0 : Nat) (z1 : Nat) (z2 : Int32) (S : ZS) (o : Int32 × ZS), WS z0 → NQ S → self2 z0 z1 z2 S = some o → NQ o.2 ∧ KE S o.2) (hN : NQ S) (w_x0 : WS x0) (hf : d_X6_putAll_2s self2 x0 x1 x2 S = some o) : NQ o.2 ∧ KE S o.2 := by
  unfold d_X6_putAll_2s at hf
  obtain ⟨q1, hf⟩ := m_chkE hf
  rcases m_ifE hf with ⟨-, hf⟩ | ⟨-, hf⟩
  ·
    cases hf
    exact ⟨hN, ke_0⟩
  ·
    obtain ⟨q2, hf⟩ := m_chkE hf
    obtain ⟨o1, ho, hf⟩ := m_calE hf
    have r_o1 := ro_X6_at ho
    have n_o1 : NQ o1.2 := by rw [r_o1]; exact hN
    have k_o1 : KE S o1.2 := by rw [r_o1]; exact ke_0
    clear ho
    obtain ⟨-, hf⟩ := m_chkE hf
    obtain ⟨q3, hf⟩ := m_chkE hf
    obtain ⟨⟨r3, S4⟩, ho, hf⟩ := m_cal2E hf
    obtain ⟨n_S4, k_S4⟩ := ke_X6_put n_o1 w_x0 ho
    replace k_S4 := ke_t k_o1 k_S4
    clear ho
    obtain ⟨v7, -, hf⟩ := m_bndE hf
    obtain ⟨n_9, k_9⟩ := hself2 _ _ _ _ _ w_x0 n_S4 hf
    exact ⟨n_9, ke_t k_S4 k_9⟩
theorem ke_X6_putAll_2   (n : Nat) : ∀ (y0 : Nat) (y1 : Nat) (y2 : Int32) (S : ZS) (o : Int32 × ZS), WS y0 → NQ S → d_X6_putAll_2  n y0 y1 y2 S = some o → NQ o.2 ∧ KE S o.2 := by
  induction n with
  | zero => intro y0 y1 y2 S o c0 hN hf; cases hf
  | succ n ih => intro y0 y1 y2 S o c0 hN hf; exact ke_X6_putAll_2s ih hN c0 hf
theorem ke_X6_putAll_0 {o : Int32 × ZS} {x0 : Nat} {x1 : Nat} {S : ZS}  (hN : NQ S) (w_x0 : WS x0) (hf : d_X6_putAll_0 x0 x1 S = some o) : NQ o.2 ∧ KE S o.2 := by
  unfold d_X6_putAll_0 at hf
  obtain ⟨n_9, k_9⟩ := ke_X6_putAll_2  _ _ _ _ _ _ w_x0 hN hf
  exact ⟨n_9, ke_t ke_0 k_9⟩
theorem ke_X6_putAll {o : Int32 × ZS} {x0 : Nat} {x1 : Nat} {S : ZS}  (hN : NQ S) (w_x0 : WS x0) (hf : d_X6_putAll x0 x1 S = some o) : NQ o.2 ∧ KE S o.2 := by
  unfold d_X6_putAll at hf
  obtain ⟨n_9, k_9⟩ := ke_X6_putAll_0  hN w_x0 hf
  exact ⟨n_9, ke_t ke_0 k_9⟩
theorem ke_X8_copyWhole_113 {o : Int32 × ZS} {S : ZS}  (hN : NQ S)  (hf : d_X8_copyWhole_113 S = some o) : NQ o.2 ∧ KE S o.2 := by
  unfold d_X8_copyWhole_113 at hf
  cases hf
  exact ⟨hN, ke_0⟩
theorem ke_X8_copyWhole_87 {o : Int32 × ZS} {x0 : Nat} {t0 : Int32} {t1 : Nat} {S : ZS}  (hN : NQ S) (w_x0 : WS x0) (w_t1 : WS t1) (hf : d_X8_copyWhole_87 x0 t0 t1 S = some o) : NQ o.2 ∧ KE S o.2 := by
  unfold d_X8_copyWhole_87 at hf
  obtain ⟨q1, hf⟩ := m_chkE hf
  obtain ⟨-, hf⟩ := m_chkE hf
  obtain ⟨S1, e2, hf⟩ := m_bndE hf
  obtain ⟨n_S1, k_S1⟩ := nk_I hN w_t1 e2
  replace k_S1 := ke_t ke_0 k_S1
  obtain ⟨q3, hf⟩ := m_chkE hf
  rcases m_ifE hf with ⟨-, hf⟩ | ⟨-, hf⟩
  ·
    obtain ⟨n_9, k_9⟩ := ke_X8_copyWhole_113  n_S1  hf
    exact ⟨n_9, ke_t k_S1 k_9⟩
  ·
    obtain ⟨q4, hf⟩ := m_chkE hf
    obtain ⟨b2, p_b2, hf⟩ := m_calE hf
    obtain ⟨q5, hf⟩ := m_chkE hf
    obtain ⟨b3, p_b3, hf⟩ := m_calE hf
    obtain ⟨q6, hf⟩ := m_chkE hf
    obtain ⟨o4, ho, hf⟩ := m_calE hf
    have r_o4 := ro_X6_size ho
    have n_o4 : NQ o4.2 := by rw [r_o4]; exact n_S1
    have k_o4 : KE S o4.2 := by rw [r_o4]; exact k_S1
    clear ho
    obtain ⟨-, hf⟩ := m_chkE hf
    obtain ⟨v5, -, hf⟩ := m_bndE hf
    obtain ⟨q7, hf⟩ := m_chkE hf
    obtain ⟨o6, ho, hf⟩ := m_calE hf
    obtain ⟨n_o6, k_o6⟩ := ke_X6_keep n_o4 (nq_cl n_S1 q5 (by decide) (Or.inl w_x0) p_b2) ho
    replace k_o6 := ke_t k_o4 k_o6
    clear ho
    obtain ⟨-, hf⟩ := m_chkE hf
    obtain ⟨n_9, k_9⟩ := ke_X8_copyWhole_113  n_o6  hf
    exact ⟨n_9, ke_t k_o6 k_9⟩
theorem ke_X8_copyWhole_81 {o : Int32 × ZS} {x0 : Nat} {x4 : Int32} {t0 : Nat} {S : ZS}  (hN : NQ S) (w_x0 : WS x0) (w_t0 : WS t0) (hf : d_X8_copyWhole_81 x0 x4 t0 S = some o) : NQ o.2 ∧ KE S o.2 := by
  unfold d_X8_copyWhole_81 at hf
  obtain ⟨n_9, k_9⟩ := ke_X8_copyWhole_87  hN w_x0 w_t0 hf
  exact ⟨n_9, ke_t ke_0 k_9⟩
theorem ke_X8_copyWhole_48 {o : Int32 × ZS} {x0 : Nat} {S : ZS}  (hN : NQ S) (w_x0 : WS x0) (hf : d_X8_copyWhole_48 x0 S = some o) : NQ o.2 ∧ KE S o.2 := by
  unfold d_X8_copyWhole_48 at hf
  obtain ⟨q1, hf⟩ := m_chkE hf
  obtain ⟨b1, p_b1, hf⟩ := m_calE hf
  obtain ⟨q2, hf⟩ := m_chkE hf
  obtain ⟨b2, p_b2, hf⟩ := m_calE hf
  obtain ⟨q3, hf⟩ := m_chkE hf
  obtain ⟨o3, ho, hf⟩ := m_calE hf
  have r_o3 := ro_X6_size ho
  have n_o3 : NQ o3.2 := by rw [r_o3]; exact hN
  have k_o3 : KE S o3.2 := by rw [r_o3]; exact ke_0
  clear ho
  obtain ⟨-, hf⟩ := m_chkE hf
  obtain ⟨v4, -, hf⟩ := m_bndE hf
  obtain ⟨q4, hf⟩ := m_chkE hf
  obtain ⟨o5, ho, hf⟩ := m_calE hf
  have r_o5 := ro_X6_at ho
  have n_o5 : NQ o5.2 := by rw [r_o5]; exact n_o3
  have k_o5 : KE S o5.2 := by rw [r_o5]; exact k_o3
  clear ho
  obtain ⟨-, hf⟩ := m_chkE hf
  rcases m_ifE hf with ⟨-, hf⟩ | ⟨-, hf⟩
  ·
    obtain ⟨n_9, k_9⟩ := ke_X8_copyWhole_81  n_o5 w_x0 w_x0 hf
    exact ⟨n_9, ke_t k_o5 k_9⟩
  ·
    rcases m_ifE hf with ⟨-, hf⟩ | ⟨-, hf⟩
    ·
      obtain ⟨n_9, k_9⟩ := ke_X8_copyWhole_81  n_o5 w_x0 w_x0 hf
      exact ⟨n_9, ke_t k_o5 k_9⟩
    ·
      obtain ⟨n_9, k_9⟩ := ke_X8_copyWhole_87  n_o5 w_x0 w_x0 hf
      exact ⟨n_9, ke_t k_o5 k_9⟩
theorem ke_X8_copyWhole_11s {o : Int32 × ZS} {self11 : Nat → Nat → Int32 → Int32 → ZS → Option (Int32 × ZS)} {x0 : Nat} {x1 : Nat} {x3 : Int32} {x4 : Int32} {S : ZS} (hself11 : ∀ (z0 : Nat) (z1 : Nat) (z2 : Int32) (z3 : Int32) (S : ZS) (o : Int32 × ZS), WS z0 → NQ S → self11 z0 z1 z2 z3 S = some o → NQ o.2 ∧ KE S o.2) (hN : NQ S) (w_x0 : WS x0) (hf : d_X8_copyWhole_11s self11 x0 x1 x3 x4 S = some o) : NQ o.2 ∧ KE S o.2 := by
  unfold d_X8_copyWhole_11s at hf
  rcases m_ifE hf with ⟨-, hf⟩ | ⟨-, hf⟩
  ·
    obtain ⟨n_9, k_9⟩ := ke_X8_copyWhole_48  hN w_x0 hf
    exact ⟨n_9, ke_t ke_0 k_9⟩
  ·
    obtain ⟨q1, hf⟩ := m_chkE hf
    obtain ⟨b1, p_b1, hf⟩ := m_calE hf
    obtain ⟨q2, hf⟩ := m_chkE hf
    obtain ⟨o2, ho, hf⟩ := m_calE hf
    have r_o2 := ro_X6_size ho
    have n_o2 : NQ o2.2 := by rw [r_o2]; exact hN
    have k_o2 : KE S o2.2 := by rw [r_o2]; exact ke_0
    clear ho
    obtain ⟨-, hf⟩ := m_chkE hf
    rcases m_ifE hf with ⟨-, hf⟩ | ⟨-, hf⟩
    ·
      obtain ⟨n_9, k_9⟩ := ke_X8_copyWhole_48  n_o2 w_x0 hf
      exact ⟨n_9, ke_t k_o2 k_9⟩
    ·
      obtain ⟨q3, hf⟩ := m_chkE hf
      obtain ⟨b3, p_b3, hf⟩ := m_calE hf
      obtain ⟨q4, hf⟩ := m_chkE hf
      obtain ⟨o4, ho, hf⟩ := m_calE hf
      have r_o4 := ro_X6_at ho
      have n_o4 : NQ o4.2 := by rw [r_o4]; exact n_o2
      have k_o4 : KE S o4.2 := by rw [r_o4]; exact k_o2
      clear ho
      obtain ⟨-, hf⟩ := m_chkE hf
      obtain ⟨q5, hf⟩ := m_chkE hf
      obtain ⟨⟨r6, S7⟩, ho, hf⟩ := m_cal2E hf
      obtain ⟨n_S7, k_S7⟩ := ke_X6_put n_o4 (nq_cl n_o2 q3 (by decide) (Or.inl w_x0) p_b3) ho
      replace k_S7 := ke_t k_o4 k_S7
      clear ho
      obtain ⟨v10, -, hf⟩ := m_bndE hf
      obtain ⟨n_9, k_9⟩ := hself11 _ _ _ _ _ _ w_x0 n_S7 hf
      exact ⟨n_9, ke_t k_S7 k_9⟩
theorem ke_X8_copyWhole_11   (n : Nat) : ∀ (y0 : Nat) (y1 : Nat) (y2 : Int32) (y3 : Int32) (S : ZS) (o : Int32 × ZS), WS y0 → NQ S → d_X8_copyWhole_11  n y0 y1 y2 y3 S = some o → NQ o.2 ∧ KE S o.2 := by
  induction n with
  | zero => intro y0 y1 y2 y3 S o c0 hN hf; cases hf
  | succ n ih => intro y0 y1 y2 y3 S o c0 hN hf; exact ke_X8_copyWhole_11s ih hN c0 hf
theorem ke_X8_copyWhole_0 {o : Int32 × ZS} {x0 : Nat} {x1 : Nat} {x2 : Int32} {x3 : Int32} {S : ZS}  (hN : NQ S) (w_x0 : WS x0) (hf : d_X8_copyWhole_0 x0 x1 x2 x3 S = some o) : NQ o.2 ∧ KE S o.2 := by
  unfold d_X8_copyWhole_0 at hf
  obtain ⟨q1, hf⟩ := m_chkE hf
  obtain ⟨b1, p_b1, hf⟩ := m_calE hf
  obtain ⟨q2, hf⟩ := m_chkE hf
  obtain ⟨o2, ho, hf⟩ := m_calE hf
  obtain ⟨n_o2, k_o2⟩ := ke_X6_keep hN (nq_cl hN q1 (by decide) (Or.inl w_x0) p_b1) ho
  replace k_o2 := ke_t ke_0 k_o2
  clear ho
  obtain ⟨-, hf⟩ := m_chkE hf
  obtain ⟨n_9, k_9⟩ := ke_X8_copyWhole_11  _ _ _ _ _ _ _ w_x0 n_o2 hf
  exact ⟨n_9, ke_t k_o2 k_9⟩
theorem ke_X8_copyWhole {o : Int32 × ZS} {x0 : Nat} {x1 : Nat} {x2 : Int32} {x3 : Int32} {S : ZS}  (hN : NQ S) (w_x0 : WS x0) (hf : d_X8_copyWhole x0 x1 x2 x3 S = some o) : NQ o.2 ∧ KE S o.2 := by
  unfold d_X8_copyWhole at hf
  obtain ⟨n_9, k_9⟩ := ke_X8_copyWhole_0  hN w_x0 hf
  exact ⟨n_9, ke_t ke_0 k_9⟩
theorem ke_X8_copyBare_73 {o : Int32 × ZS} {S : ZS}  (hN : NQ S)  (hf : d_X8_copyBare_73 S = some o) : NQ o.2 ∧ KE S o.2 := by
  unfold d_X8_copyBare_73 at hf
  cases hf
  exact ⟨hN, ke_0⟩
theorem ke_X8_copyBare_67 {o : Int32 × ZS} {self11 : Nat → Nat → Int32 → Int32 → ZS → Option (Int32 × ZS)} {x0 : Nat} {x1 : Nat} {x3 : Int32} {x4 : Int32} {S : ZS} (hself11 : ∀ (z0 : Nat) (z1 : Nat) (z2 : Int32) (z3 : Int32) (S : ZS) (o : Int32 × ZS), WS z0 → NQ S → self11 z0 z1 z2 z3 S = some o → NQ o.2 ∧ KE S o.2) (hN : NQ S) (w_x0 : WS x0) (hf : d_X8_copyBare_67 self11 x0 x1 x3 x4 S = some o) : NQ o.2 ∧ KE S o.2 := by
  unfold d_X8_copyBare_67 at hf
  obtain ⟨v1, -, hf⟩ := m_bndE hf
  obtain ⟨n_9, k_9⟩ := hself11 _ _ _ _ _ _ w_x0 hN hf
  exact ⟨n_9, ke_t ke_0 k_9⟩
theorem ke_X8_copyBare_11s {o : Int32 × ZS} {self11 : Nat → Nat → Int32 → Int32 → ZS → Option (Int32 × ZS)} {x0 : Nat} {x1 : Nat} {x3 : Int32} {x4 : Int32} {S : ZS} (hself11 : ∀ (z0 : Nat) (z1 : Nat) (z2 : Int32) (z3 : Int32) (S : ZS) (o : Int32 × ZS), WS z0 → NQ S → self11 z0 z1 z2 z3 S = some o → NQ o.2 ∧ KE S o.2) (hN : NQ S) (w_x0 : WS x0) (hf : d_X8_copyBare_11s self11 x0 x1 x3 x4 S = some o) : NQ o.2 ∧ KE S o.2 := by
  unfold d_X8_copyBare_11s at hf
  rcases m_ifE hf with ⟨-, hf⟩ | ⟨-, hf⟩
  ·
    obtain ⟨n_9, k_9⟩ := ke_X8_copyBare_73  hN  hf
    exact ⟨n_9, ke_t ke_0 k_9⟩
  ·
    obtain ⟨q1, hf⟩ := m_chkE hf
    obtain ⟨b1, p_b1, hf⟩ := m_calE hf
    obtain ⟨q2, hf⟩ := m_chkE hf
    obtain ⟨o2, ho, hf⟩ := m_calE hf
    have r_o2 := ro_X6_size ho
    have n_o2 : NQ o2.2 := by rw [r_o2]; exact hN
    have k_o2 : KE S o2.2 := by rw [r_o2]; exact ke_0
    clear ho
    obtain ⟨-, hf⟩ := m_chkE hf
    rcases m_ifE hf with ⟨-, hf⟩ | ⟨-, hf⟩
    ·
      obtain ⟨n_9, k_9⟩ := ke_X8_copyBare_73  n_o2  hf
      exact ⟨n_9, ke_t k_o2 k_9⟩
    ·
      obtain ⟨q3, hf⟩ := m_chkE hf
      obtain ⟨o3, ho, hf⟩ := m_calE hf
      have r_o3 := ro_X6_at ho
      have n_o3 : NQ o3.2 := by rw [r_o3]; exact n_o2
      have k_o3 : KE S o3.2 := by rw [r_o3]; exact k_o2
      clear ho
      obtain ⟨-, hf⟩ := m_chkE hf
      rcases m_ifE hf with ⟨-, hf⟩ | ⟨-, hf⟩
      ·
        obtain ⟨n_9, k_9⟩ := ke_X8_copyBare_67 hself11 n_o3 w_x0 hf
        exact ⟨n_9, ke_t k_o3 k_9⟩
      ·
        rcases m_ifE hf with ⟨-, hf⟩ | ⟨-, hf⟩
        ·
          obtain ⟨n_9, k_9⟩ := ke_X8_copyBare_67 hself11 n_o3 w_x0 hf
          exact ⟨n_9, ke_t k_o3 k_9⟩
        ·
          rcases m_ifE hf with ⟨-, hf⟩ | ⟨-, hf⟩
          ·
            obtain ⟨n_9, k_9⟩ := ke_X8_copyBare_67 hself11 n_o3 w_x0 hf
            exact ⟨n_9, ke_t k_o3 k_9⟩
          ·
            obtain ⟨q4, hf⟩ := m_chkE hf
            obtain ⟨b4, p_b4, hf⟩ := m_calE hf
            obtain ⟨q5, hf⟩ := m_chkE hf
            obtain ⟨⟨r6, S7⟩, ho, hf⟩ := m_cal2E hf
            obtain ⟨n_S7, k_S7⟩ := ke_X6_put n_o3 (nq_cl n_o3 q4 (by decide) (Or.inl w_x0) p_b4) ho
            replace k_S7 := ke_t k_o3 k_S7
            clear ho
            obtain ⟨n_9, k_9⟩ := ke_X8_copyBare_67 hself11 n_S7 w_x0 hf
            exact ⟨n_9, ke_t k_S7 k_9⟩
theorem ke_X8_copyBare_11   (n : Nat) : ∀ (y0 : Nat) (y1 : Nat) (y2 : Int32) (y3 : Int32) (S : ZS) (o : Int32 × ZS), WS y0 → NQ S → d_X8_copyBare_11  n y0 y1 y2 y3 S = some o → NQ o.2 ∧ KE S o.2 := by
  induction n with
  | zero => intro y0 y1 y2 y3 S o c0 hN hf; cases hf
  | succ n ih => intro y0 y1 y2 y3 S o c0 hN hf; exact ke_X8_copyBare_11s ih hN c0 hf
theorem ke_X8_copyBare_0 {o : Int32 × ZS} {x0 : Nat} {x1 : Nat} {x2 : Int32} {x3 : Int32} {S : ZS}  (hN : NQ S) (w_x0 : WS x0) (hf : d_X8_copyBare_0 x0 x1 x2 x3 S = some o) : NQ o.2 ∧ KE S o.2 := by
  unfold d_X8_copyBare_0 at hf
  obtain ⟨q1, hf⟩ := m_chkE hf
  obtain ⟨b1, p_b1, hf⟩ := m_calE hf
  obtain ⟨q2, hf⟩ := m_chkE hf
  obtain ⟨o2, ho, hf⟩ := m_calE hf
  obtain ⟨n_o2, k_o2⟩ := ke_X6_keep hN (nq_cl hN q1 (by decide) (Or.inl w_x0) p_b1) ho
  replace k_o2 := ke_t ke_0 k_o2
  clear ho
  obtain ⟨-, hf⟩ := m_chkE hf
  obtain ⟨n_9, k_9⟩ := ke_X8_copyBare_11  _ _ _ _ _ _ _ w_x0 n_o2 hf
  exact ⟨n_9, ke_t k_o2 k_9⟩
theorem ke_X8_copyBare {o : Int32 × ZS} {x0 : Nat} {x1 : Nat} {x2 : Int32} {x3 : Int32} {S : ZS}  (hN : NQ S) (w_x0 : WS x0) (hf : d_X8_copyBare x0 x1 x2 x3 S = some o) : NQ o.2 ∧ KE S o.2 := by
  unfold d_X8_copyBare at hf
  obtain ⟨n_9, k_9⟩ := ke_X8_copyBare_0  hN w_x0 hf
  exact ⟨n_9, ke_t ke_0 k_9⟩
theorem ke_X8_matched_144 {o : Int32 × ZS} {t0 : Int32} {S : ZS}  (hN : NQ S)  (hf : d_X8_matched_144 t0 S = some o) : NQ o.2 ∧ KE S o.2 := by
  unfold d_X8_matched_144 at hf
  cases hf
  exact ⟨hN, ke_0⟩
theorem ke_X8_matched_103 {o : Int32 × ZS} {x0 : Nat} {x1 : Nat} {x2 : Nat} {x3 : Int32} {x4 : Int32} {S : ZS}  (hN : NQ S) (w_x0 : WS x0) (hf : d_X8_matched_103 x0 x1 x2 x3 x4 S = some o) : NQ o.2 ∧ KE S o.2 := by
  unfold d_X8_matched_103 at hf
  obtain ⟨q1, hf⟩ := m_chkE hf
  obtain ⟨⟨r2, S3⟩, ho, hf⟩ := m_cal2E hf
  obtain ⟨n_S3, k_S3⟩ := ke_X8_copyBare hN w_x0 ho
  replace k_S3 := ke_t ke_0 k_S3
  clear ho
  obtain ⟨q2, hf⟩ := m_chkE hf
  obtain ⟨o6, ho, hf⟩ := m_calE hf
  obtain ⟨n_o6, k_o6⟩ := ke_X8_parse n_S3 w_x0 ho
  replace k_o6 := ke_t k_S3 k_o6
  clear ho
  obtain ⟨-, hf⟩ := m_chkE hf
  rcases m_ifE hf with ⟨-, hf⟩ | ⟨-, hf⟩
  ·
    cases hf
    exact ⟨n_o6, k_o6⟩
  ·
    obtain ⟨q3, hf⟩ := m_chkE hf
    obtain ⟨S7, e4, hf⟩ := m_bndE hf
    obtain ⟨n_S7, k_S7⟩ := nk_I n_o6 w_x0 e4
    replace k_S7 := ke_t k_o6 k_S7
    obtain ⟨q5, hf⟩ := m_chkE hf
    obtain ⟨o8, ho, hf⟩ := m_calE hf
    obtain ⟨n_o8, k_o8⟩ := ke_X8_gather n_S7 w_x0 ho
    replace k_o8 := ke_t k_S7 k_o8
    clear ho
    obtain ⟨-, hf⟩ := m_chkE hf
    obtain ⟨q6, hf⟩ := m_chkE hf
    rcases m_ifE hf with ⟨-, hf⟩ | ⟨-, hf⟩
    ·
      obtain ⟨n_9, k_9⟩ := ke_X8_matched_144  n_o8  hf
      exact ⟨n_9, ke_t k_o8 k_9⟩
    ·
      obtain ⟨n_9, k_9⟩ := ke_X8_matched_144  n_o8  hf
      exact ⟨n_9, ke_t k_o8 k_9⟩
theorem ke_X8_matched_102 {o : Int32 × ZS} {t0 : Int32} {S : ZS}  (hN : NQ S)  (hf : d_X8_matched_102 t0 S = some o) : NQ o.2 ∧ KE S o.2 := by
  unfold d_X8_matched_102 at hf
  cases hf
  exact ⟨hN, ke_0⟩
theorem ke_X8_matched_79 {o : Int32 × ZS} {self29 : Nat → Nat → Nat → Int32 → Int32 → Int32 → Int32 → Int32 → ZS → Option (Int32 × ZS)} {x0 : Nat} {x1 : Nat} {x2 : Nat} {x3 : Int32} {x4 : Int32} {x5 : Int32} {x6 : Int32} {x7 : Int32} {S : ZS} (hself29 : ∀ (z0 : Nat) (z1 : Nat) (z2 : Nat) (z3 : Int32) (z4 : Int32) (z5 : Int32) (z6 : Int32) (z7 : Int32) (S : ZS) (o : Int32 × ZS), WS z0 → NQ S → self29 z0 z1 z2 z3 z4 z5 z6 z7 S = some o → NQ o.2 ∧ KE S o.2) (hN : NQ S) (w_x0 : WS x0) (hf : d_X8_matched_79 self29 x0 x1 x2 x3 x4 x5 x6 x7 S = some o) : NQ o.2 ∧ KE S o.2 := by
  unfold d_X8_matched_79 at hf
  obtain ⟨v1, -, hf⟩ := m_bndE hf
  obtain ⟨n_9, k_9⟩ := hself29 _ _ _ _ _ _ _ _ _ _ w_x0 hN hf
  exact ⟨n_9, ke_t ke_0 k_9⟩
theorem ke_X8_matched_67 {o : Int32 × ZS} {self29 : Nat → Nat → Nat → Int32 → Int32 → Int32 → Int32 → Int32 → ZS → Option (Int32 × ZS)} {x0 : Nat} {x1 : Nat} {x2 : Nat} {x3 : Int32} {x4 : Int32} {x6 : Int32} {x7 : Int32} {S : ZS} (hself29 : ∀ (z0 : Nat) (z1 : Nat) (z2 : Nat) (z3 : Int32) (z4 : Int32) (z5 : Int32) (z6 : Int32) (z7 : Int32) (S : ZS) (o : Int32 × ZS), WS z0 → NQ S → self29 z0 z1 z2 z3 z4 z5 z6 z7 S = some o → NQ o.2 ∧ KE S o.2) (hN : NQ S) (w_x0 : WS x0) (hf : d_X8_matched_67 self29 x0 x1 x2 x3 x4 x6 x7 S = some o) : NQ o.2 ∧ KE S o.2 := by
  unfold d_X8_matched_67 at hf
  obtain ⟨q1, hf⟩ := m_chkE hf
  obtain ⟨b1, p_b1, hf⟩ := m_calE hf
  obtain ⟨q2, hf⟩ := m_chkE hf
  obtain ⟨q3, hf⟩ := m_chkE hf
  obtain ⟨v2, -, hf⟩ := m_bndE hf
  obtain ⟨v3, -, hf⟩ := m_bndE hf
  obtain ⟨n_9, k_9⟩ := ke_X8_matched_79 hself29 hN w_x0 hf
  exact ⟨n_9, ke_t ke_0 k_9⟩
theorem ke_X8_matched_29s {o : Int32 × ZS} {self29 : Nat → Nat → Nat → Int32 → Int32 → Int32 → Int32 → Int32 → ZS → Option (Int32 × ZS)} {x0 : Nat} {x1 : Nat} {x2 : Nat} {x3 : Int32} {x4 : Int32} {x5 : Int32} {x6 : Int32} {x7 : Int32} {S : ZS} (hself29 : ∀ (z0 : Nat) (z1 : Nat) (z2 : Nat) (z3 : Int32) (z4 : Int32) (z5 : Int32) (z6 : Int32) (z7 : Int32) (S : ZS) (o : Int32 × ZS), WS z0 → NQ S → self29 z0 z1 z2 z3 z4 z5 z6 z7 S = some o → NQ o.2 ∧ KE S o.2) (hN : NQ S) (w_x0 : WS x0) (hf : d_X8_matched_29s self29 x0 x1 x2 x3 x4 x5 x6 x7 S = some o) : NQ o.2 ∧ KE S o.2 := by
  unfold d_X8_matched_29s at hf
  obtain ⟨q1, hf⟩ := m_chkE hf
  rcases m_ifE hf with ⟨-, hf⟩ | ⟨-, hf⟩
  ·
    rcases m_ifE hf with ⟨-, hf⟩ | ⟨-, hf⟩
    ·
      obtain ⟨n_9, k_9⟩ := ke_X8_matched_103  hN w_x0 hf
      exact ⟨n_9, ke_t ke_0 k_9⟩
    ·
      rcases m_ifE hf with ⟨-, hf⟩ | ⟨-, hf⟩
      ·
        obtain ⟨n_9, k_9⟩ := ke_X8_matched_102  hN  hf
        exact ⟨n_9, ke_t ke_0 k_9⟩
      ·
        obtain ⟨n_9, k_9⟩ := ke_X8_matched_102  hN  hf
        exact ⟨n_9, ke_t ke_0 k_9⟩
  ·
    obtain ⟨q2, hf⟩ := m_chkE hf
    rcases m_ifE hf with ⟨-, hf⟩ | ⟨-, hf⟩
    ·
      obtain ⟨n_9, k_9⟩ := ke_X8_matched_67 hself29 hN w_x0 hf
      exact ⟨n_9, ke_t ke_0 k_9⟩
    ·
      obtain ⟨q3, hf⟩ := m_chkE hf
      obtain ⟨q4, hf⟩ := m_chkE hf
      obtain ⟨b1, p_b1, hf⟩ := m_calE hf
      obtain ⟨q5, hf⟩ := m_chkE hf
      obtain ⟨b2, p_b2, hf⟩ := m_calE hf
      obtain ⟨q6, hf⟩ := m_chkE hf
      obtain ⟨q7, hf⟩ := m_chkE hf
      obtain ⟨v3, -, hf⟩ := m_bndE hf
      obtain ⟨q8, hf⟩ := m_chkE hf
      obtain ⟨o4, ho, hf⟩ := m_calE hf
      obtain ⟨n_o4, k_o4⟩ := ke_X7_checkSign hN (nq_cl hN q5 (by decide) (Or.inl w_x0) p_b1) ho
      replace k_o4 := ke_t ke_0 k_o4
      clear ho
      obtain ⟨-, hf⟩ := m_chkE hf
      rcases m_ifE hf with ⟨-, hf⟩ | ⟨-, hf⟩
      ·
        obtain ⟨n_9, k_9⟩ := ke_X8_matched_67 hself29 n_o4 w_x0 hf
        exact ⟨n_9, ke_t k_o4 k_9⟩
      ·
        obtain ⟨n_9, k_9⟩ := ke_X8_matched_79 hself29 n_o4 w_x0 hf
        exact ⟨n_9, ke_t k_o4 k_9⟩
theorem ke_X8_matched_29   (n : Nat) : ∀ (y0 : Nat) (y1 : Nat) (y2 : Nat) (y3 : Int32) (y4 : Int32) (y5 : Int32) (y6 : Int32) (y7 : Int32) (S : ZS) (o : Int32 × ZS), WS y0 → NQ S → d_X8_matched_29  n y0 y1 y2 y3 y4 y5 y6 y7 S = some o → NQ o.2 ∧ KE S o.2 := by
  induction n with
  | zero => intro y0 y1 y2 y3 y4 y5 y6 y7 S o c0 hN hf; cases hf
  | succ n ih => intro y0 y1 y2 y3 y4 y5 y6 y7 S o c0 hN hf; exact ke_X8_matched_29s ih hN c0 hf
theorem ke_X8_matched_0 {o : Int32 × ZS} {x0 : Nat} {x1 : Nat} {x2 : Nat} {x3 : Int32} {x4 : Int32} {S : ZS}  (hN : NQ S) (w_x0 : WS x0) (hf : d_X8_matched_0 x0 x1 x2 x3 x4 S = some o) : NQ o.2 ∧ KE S o.2 := by
  unfold d_X8_matched_0 at hf
  obtain ⟨q1, hf⟩ := m_chkE hf
  obtain ⟨⟨r2, S3⟩, ho, hf⟩ := m_cal2E hf
  obtain ⟨n_S3, k_S3⟩ := ke_X8_copyWhole hN w_x0 ho
  replace k_S3 := ke_t ke_0 k_S3
  clear ho
  obtain ⟨q2, hf⟩ := m_chkE hf
  obtain ⟨o6, ho, hf⟩ := m_calE hf
  obtain ⟨n_o6, k_o6⟩ := ke_X8_parse n_S3 w_x0 ho
  replace k_o6 := ke_t k_S3 k_o6
  clear ho
  obtain ⟨-, hf⟩ := m_chkE hf
  rcases m_ifE hf with ⟨-, hf⟩ | ⟨-, hf⟩
  ·
    obtain ⟨n_9, k_9⟩ := ke_X8_matched_103  n_o6 w_x0 hf
    exact ⟨n_9, ke_t k_o6 k_9⟩
  ·
    obtain ⟨q3, hf⟩ := m_chkE hf
    obtain ⟨o7, ho, hf⟩ := m_calE hf
    obtain ⟨n_o7, k_o7⟩ := ke_X8_gather n_o6 w_x0 ho
    replace k_o7 := ke_t k_o6 k_o7
    clear ho
    obtain ⟨-, hf⟩ := m_chkE hf
    obtain ⟨n_9, k_9⟩ := ke_X8_matched_29  _ _ _ _ _ _ _ _ _ _ _ w_x0 n_o7 hf
    exact ⟨n_9, ke_t k_o7 k_9⟩
theorem ke_X8_matched {o : Int32 × ZS} {x0 : Nat} {x1 : Nat} {x2 : Nat} {x3 : Int32} {x4 : Int32} {S : ZS}  (hN : NQ S) (w_x0 : WS x0) (hf : d_X8_matched x0 x1 x2 x3 x4 S = some o) : NQ o.2 ∧ KE S o.2 := by
  unfold d_X8_matched at hf
  obtain ⟨n_9, k_9⟩ := ke_X8_matched_0  hN w_x0 hf
  exact ⟨n_9, ke_t ke_0 k_9⟩
theorem ke_X6_putText_2s {o : Int32 × ZS} {self2 : Nat → Nat → Int32 → ZS → Option (Int32 × ZS)} {x0 : Nat} {x1 : Nat} {x2 : Int32} {S : ZS} (hself2 : ∀ (z0 : Nat) (z1 : Nat) (z2 : Int32) (S : ZS) (o : Int32 × ZS), WS z0 → NQ S → self2 z0 z1 z2 S = some o → NQ o.2 ∧ KE S o.2) (hN : NQ S) (w_x0 : WS x0) (hf : d_X6_putText_2s self2 x0 x1 x2 S = some o) : NQ o.2 ∧ KE S o.2 := by
  unfold d_X6_putText_2s at hf
  obtain ⟨-, hf⟩ := m_chkE hf
  obtain ⟨o1, ho, hf⟩ := m_calE hf
  have r_o1 := ro_J0_length_8abf5 ho
  have n_o1 : NQ o1.2 := by rw [r_o1]; exact hN
  have k_o1 : KE S o1.2 := by rw [r_o1]; exact ke_0
  clear ho
  obtain ⟨-, hf⟩ := m_chkE hf
  rcases m_ifE hf with ⟨-, hf⟩ | ⟨-, hf⟩
  ·
    cases hf
    exact ⟨n_o1, k_o1⟩
  ·
    obtain ⟨-, hf⟩ := m_chkE hf
    obtain ⟨o2, ho, hf⟩ := m_calE hf
    have r_o2 := ro_J0_charAt_5068e ho
    have n_o2 : NQ o2.2 := by rw [r_o2]; exact n_o1
    have k_o2 : KE S o2.2 := by rw [r_o2]; exact k_o1
    clear ho
    obtain ⟨-, hf⟩ := m_chkE hf
    obtain ⟨q1, hf⟩ := m_chkE hf
    obtain ⟨⟨r4, S5⟩, ho, hf⟩ := m_cal2E hf
    obtain ⟨n_S5, k_S5⟩ := ke_X6_put n_o2 w_x0 ho
    replace k_S5 := ke_t k_o2 k_S5
    clear ho
    obtain ⟨v8, -, hf⟩ := m_bndE hf
    obtain ⟨n_9, k_9⟩ := hself2 _ _ _ _ _ w_x0 n_S5 hf
    exact ⟨n_9, ke_t k_S5 k_9⟩
theorem ke_X6_putText_2   (n : Nat) : ∀ (y0 : Nat) (y1 : Nat) (y2 : Int32) (S : ZS) (o : Int32 × ZS), WS y0 → NQ S → d_X6_putText_2  n y0 y1 y2 S = some o → NQ o.2 ∧ KE S o.2 := by
  induction n with
  | zero => intro y0 y1 y2 S o c0 hN hf; cases hf
  | succ n ih => intro y0 y1 y2 S o c0 hN hf; exact ke_X6_putText_2s ih hN c0 hf
theorem ke_X6_putText_0 {o : Int32 × ZS} {x0 : Nat} {x1 : Nat} {S : ZS}  (hN : NQ S) (w_x0 : WS x0) (hf : d_X6_putText_0 x0 x1 S = some o) : NQ o.2 ∧ KE S o.2 := by
  unfold d_X6_putText_0 at hf
  obtain ⟨n_9, k_9⟩ := ke_X6_putText_2  _ _ _ _ _ _ w_x0 hN hf
  exact ⟨n_9, ke_t ke_0 k_9⟩
theorem ke_X6_putText {o : Int32 × ZS} {x0 : Nat} {x1 : Nat} {S : ZS}  (hN : NQ S) (w_x0 : WS x0) (hf : d_X6_putText x0 x1 S = some o) : NQ o.2 ∧ KE S o.2 := by
  unfold d_X6_putText at hf
  obtain ⟨n_9, k_9⟩ := ke_X6_putText_0  hN w_x0 hf
  exact ⟨n_9, ke_t ke_0 k_9⟩
theorem ke_X3_putQuoted_34 {o : Int32 × ZS} {self2 : Nat → Nat → Int32 → ZS → Option (Int32 × ZS)} {x0 : Nat} {x1 : Nat} {x2 : Int32} {x3 : Int32} {S : ZS} (hself2 : ∀ (z0 : Nat) (z1 : Nat) (z2 : Int32) (S : ZS) (o : Int32 × ZS), WS z1 → NQ S → self2 z0 z1 z2 S = some o → NQ o.2 ∧ KE S o.2) (hN : NQ S) (w_x1 : WS x1) (hf : d_X3_putQuoted_34 self2 x0 x1 x2 x3 S = some o) : NQ o.2 ∧ KE S o.2 := by
  unfold d_X3_putQuoted_34 at hf
  obtain ⟨q1, hf⟩ := m_chkE hf
  obtain ⟨⟨r2, S3⟩, ho, hf⟩ := m_cal2E hf
  obtain ⟨n_S3, k_S3⟩ := ke_X6_put hN w_x1 ho
  replace k_S3 := ke_t ke_0 k_S3
  clear ho
  obtain ⟨v6, -, hf⟩ := m_bndE hf
  obtain ⟨n_9, k_9⟩ := hself2 _ _ _ _ _ w_x1 n_S3 hf
  exact ⟨n_9, ke_t k_S3 k_9⟩
theorem ke_X3_putQuoted_28 {o : Int32 × ZS} {self2 : Nat → Nat → Int32 → ZS → Option (Int32 × ZS)} {x0 : Nat} {x1 : Nat} {x2 : Int32} {x3 : Int32} {S : ZS} (hself2 : ∀ (z0 : Nat) (z1 : Nat) (z2 : Int32) (S : ZS) (o : Int32 × ZS), WS z1 → NQ S → self2 z0 z1 z2 S = some o → NQ o.2 ∧ KE S o.2) (hN : NQ S) (w_x1 : WS x1) (hf : d_X3_putQuoted_28 self2 x0 x1 x2 x3 S = some o) : NQ o.2 ∧ KE S o.2 := by
  unfold d_X3_putQuoted_28 at hf
  obtain ⟨q1, hf⟩ := m_chkE hf
  obtain ⟨⟨r2, S3⟩, ho, hf⟩ := m_cal2E hf
  obtain ⟨n_S3, k_S3⟩ := ke_X6_put hN w_x1 ho
  replace k_S3 := ke_t ke_0 k_S3
  clear ho
  obtain ⟨n_9, k_9⟩ := ke_X3_putQuoted_34 hself2 n_S3 w_x1 hf
  exact ⟨n_9, ke_t k_S3 k_9⟩
theorem ke_X3_putQuoted_2s {o : Int32 × ZS} {self2 : Nat → Nat → Int32 → ZS → Option (Int32 × ZS)} {x0 : Nat} {x1 : Nat} {x2 : Int32} {S : ZS} (hself2 : ∀ (z0 : Nat) (z1 : Nat) (z2 : Int32) (S : ZS) (o : Int32 × ZS), WS z1 → NQ S → self2 z0 z1 z2 S = some o → NQ o.2 ∧ KE S o.2) (hN : NQ S) (w_x1 : WS x1) (hf : d_X3_putQuoted_2s self2 x0 x1 x2 S = some o) : NQ o.2 ∧ KE S o.2 := by
  unfold d_X3_putQuoted_2s at hf
  obtain ⟨q1, hf⟩ := m_chkE hf
  obtain ⟨o1, ho, hf⟩ := m_calE hf
  have r_o1 := ro_X6_size ho
  have n_o1 : NQ o1.2 := by rw [r_o1]; exact hN
  have k_o1 : KE S o1.2 := by rw [r_o1]; exact ke_0
  clear ho
  obtain ⟨-, hf⟩ := m_chkE hf
  rcases m_ifE hf with ⟨-, hf⟩ | ⟨-, hf⟩
  ·
    cases hf
    exact ⟨n_o1, k_o1⟩
  ·
    obtain ⟨q2, hf⟩ := m_chkE hf
    obtain ⟨o2, ho, hf⟩ := m_calE hf
    have r_o2 := ro_X6_at ho
    have n_o2 : NQ o2.2 := by rw [r_o2]; exact n_o1
    have k_o2 : KE S o2.2 := by rw [r_o2]; exact k_o1
    clear ho
    obtain ⟨-, hf⟩ := m_chkE hf
    rcases m_ifE hf with ⟨-, hf⟩ | ⟨-, hf⟩
    ·
      obtain ⟨n_9, k_9⟩ := ke_X3_putQuoted_28 hself2 n_o2 w_x1 hf
      exact ⟨n_9, ke_t k_o2 k_9⟩
    ·
      rcases m_ifE hf with ⟨-, hf⟩ | ⟨-, hf⟩
      ·
        obtain ⟨n_9, k_9⟩ := ke_X3_putQuoted_28 hself2 n_o2 w_x1 hf
        exact ⟨n_9, ke_t k_o2 k_9⟩
      ·
        obtain ⟨n_9, k_9⟩ := ke_X3_putQuoted_34 hself2 n_o2 w_x1 hf
        exact ⟨n_9, ke_t k_o2 k_9⟩
theorem ke_X3_putQuoted_2   (n : Nat) : ∀ (y0 : Nat) (y1 : Nat) (y2 : Int32) (S : ZS) (o : Int32 × ZS), WS y1 → NQ S → d_X3_putQuoted_2  n y0 y1 y2 S = some o → NQ o.2 ∧ KE S o.2 := by
  induction n with
  | zero => intro y0 y1 y2 S o c1 hN hf; cases hf
  | succ n ih => intro y0 y1 y2 S o c1 hN hf; exact ke_X3_putQuoted_2s ih hN c1 hf
theorem ke_X3_putQuoted_0 {o : Int32 × ZS} {x0 : Nat} {x1 : Nat} {S : ZS}  (hN : NQ S) (w_x1 : WS x1) (hf : d_X3_putQuoted_0 x0 x1 S = some o) : NQ o.2 ∧ KE S o.2 := by
  unfold d_X3_putQuoted_0 at hf
  obtain ⟨n_9, k_9⟩ := ke_X3_putQuoted_2  _ _ _ _ _ _ w_x1 hN hf
  exact ⟨n_9, ke_t ke_0 k_9⟩
theorem ke_X3_putQuoted {o : Int32 × ZS} {x0 : Nat} {x1 : Nat} {S : ZS}  (hN : NQ S) (w_x1 : WS x1) (hf : d_X3_putQuoted x0 x1 S = some o) : NQ o.2 ∧ KE S o.2 := by
  unfold d_X3_putQuoted at hf
  obtain ⟨n_9, k_9⟩ := ke_X3_putQuoted_0  hN w_x1 hf
  exact ⟨n_9, ke_t ke_0 k_9⟩
theorem ke_X3_putGap_33 {o : Int32 × ZS} {S : ZS}  (hN : NQ S)  (hf : d_X3_putGap_33 S = some o) : NQ o.2 ∧ KE S o.2 := by
  unfold d_X3_putGap_33 at hf
  cases hf
  exact ⟨hN, ke_0⟩
theorem ke_X3_putGap_0 {o : Int32 × ZS} {x0 : Nat} {S : ZS}  (hN : NQ S) (w_x0 : WS x0) (hf : d_X3_putGap_0 x0 S = some o) : NQ o.2 ∧ KE S o.2 := by
  unfold d_X3_putGap_0 at hf
  obtain ⟨q1, hf⟩ := m_chkE hf
  obtain ⟨o1, ho, hf⟩ := m_calE hf
  have r_o1 := ro_X6_size ho
  have n_o1 : NQ o1.2 := by rw [r_o1]; exact hN
  have k_o1 : KE S o1.2 := by rw [r_o1]; exact ke_0
  clear ho
  obtain ⟨-, hf⟩ := m_chkE hf
  obtain ⟨v2, -, hf⟩ := m_bndE hf
  obtain ⟨q2, hf⟩ := m_chkE hf
  obtain ⟨o3, ho, hf⟩ := m_calE hf
  have r_o3 := ro_X6_at ho
  have n_o3 : NQ o3.2 := by rw [r_o3]; exact n_o1
  have k_o3 : KE S o3.2 := by rw [r_o3]; exact k_o1
  clear ho
  obtain ⟨-, hf⟩ := m_chkE hf
  rcases m_ifE hf with ⟨-, hf⟩ | ⟨-, hf⟩
  ·
    obtain ⟨n_9, k_9⟩ := ke_X3_putGap_33  n_o3  hf
    exact ⟨n_9, ke_t k_o3 k_9⟩
  ·
    rcases m_ifE hf with ⟨-, hf⟩ | ⟨-, hf⟩
    ·
      obtain ⟨n_9, k_9⟩ := ke_X3_putGap_33  n_o3  hf
      exact ⟨n_9, ke_t k_o3 k_9⟩
    ·
      rcases m_ifE hf with ⟨-, hf⟩ | ⟨-, hf⟩
      ·
        obtain ⟨n_9, k_9⟩ := ke_X3_putGap_33  n_o3  hf
        exact ⟨n_9, ke_t k_o3 k_9⟩
      ·
        obtain ⟨q3, hf⟩ := m_chkE hf
        obtain ⟨⟨r5, S6⟩, ho, hf⟩ := m_cal2E hf
        obtain ⟨n_S6, k_S6⟩ := ke_X6_put n_o3 w_x0 ho
        replace k_S6 := ke_t k_o3 k_S6
        clear ho
        obtain ⟨n_9, k_9⟩ := ke_X3_putGap_33  n_S6  hf
        exact ⟨n_9, ke_t k_S6 k_9⟩
theorem ke_X3_putGap {o : Int32 × ZS} {x0 : Nat} {S : ZS}  (hN : NQ S) (w_x0 : WS x0) (hf : d_X3_putGap x0 S = some o) : NQ o.2 ∧ KE S o.2 := by
  unfold d_X3_putGap at hf
  obtain ⟨n_9, k_9⟩ := ke_X3_putGap_0  hN w_x0 hf
  exact ⟨n_9, ke_t ke_0 k_9⟩
theorem ke_X3_putRemark_0 {o : Int32 × ZS} {x0 : Nat} {x1 : Nat} {S : ZS}  (hN : NQ S) (w_x1 : WS x1) (hf : d_X3_putRemark_0 x0 x1 S = some o) : NQ o.2 ∧ KE S o.2 := by
  unfold d_X3_putRemark_0 at hf
  obtain ⟨q1, hf⟩ := m_chkE hf
  obtain ⟨b1, p_b1, hf⟩ := m_calE hf
  obtain ⟨q2, hf⟩ := m_chkE hf
  obtain ⟨o2, ho, hf⟩ := m_calE hf
  have r_o2 := ro_X6_size ho
  have n_o2 : NQ o2.2 := by rw [r_o2]; exact hN
  have k_o2 : KE S o2.2 := by rw [r_o2]; exact ke_0
  clear ho
  obtain ⟨-, hf⟩ := m_chkE hf
  rcases m_ifE hf with ⟨-, hf⟩ | ⟨-, hf⟩
  ·
    cases hf
    exact ⟨n_o2, k_o2⟩
  ·
    obtain ⟨⟨r4, S5⟩, ho, hf⟩ := m_cal2E hf
    obtain ⟨n_S5, k_S5⟩ := ke_X3_putGap n_o2 w_x1 ho
    replace k_S5 := ke_t k_o2 k_S5
    clear ho
    obtain ⟨q3, hf⟩ := m_chkE hf
    obtain ⟨⟨r9, S10⟩, ho, hf⟩ := m_cal2E hf
    obtain ⟨n_S10, k_S10⟩ := ke_X6_put n_S5 w_x1 ho
    replace k_S10 := ke_t k_S5 k_S10
    clear ho
    obtain ⟨q4, hf⟩ := m_chkE hf
    obtain ⟨b13, p_b13, hf⟩ := m_calE hf
    obtain ⟨q5, hf⟩ := m_chkE hf
    obtain ⟨⟨r15, S16⟩, ho, hf⟩ := m_cal2E hf
    obtain ⟨n_S16, k_S16⟩ := ke_X6_putAll n_S10 w_x1 ho
    replace k_S16 := ke_t k_S10 k_S16
    clear ho
    obtain ⟨q6, hf⟩ := m_chkE hf
    obtain ⟨⟨r20, S21⟩, ho, hf⟩ := m_cal2E hf
    obtain ⟨n_S21, k_S21⟩ := ke_X6_put n_S16 w_x1 ho
    replace k_S21 := ke_t k_S16 k_S21
    clear ho
    cases hf
    exact ⟨n_S21, k_S21⟩
theorem ke_X3_putRemark {o : Int32 × ZS} {x0 : Nat} {x1 : Nat} {S : ZS}  (hN : NQ S) (w_x1 : WS x1) (hf : d_X3_putRemark x0 x1 S = some o) : NQ o.2 ∧ KE S o.2 := by
  unfold d_X3_putRemark at hf
  obtain ⟨n_9, k_9⟩ := ke_X3_putRemark_0  hN w_x1 hf
  exact ⟨n_9, ke_t ke_0 k_9⟩
theorem ke_X3_putHead_72 {o : Int32 × ZS} {x0 : Nat} {x1 : Nat} {x2 : Nat} {S : ZS}  (hN : NQ S) (w_x0 : WS x0) (w_x2 : WS x2) (hf : d_X3_putHead_72 x0 x1 x2 S = some o) : NQ o.2 ∧ KE S o.2 := by
  unfold d_X3_putHead_72 at hf
  obtain ⟨q1, hf⟩ := m_chkE hf
  obtain ⟨o1, ho, hf⟩ := m_calE hf
  have r_o1 := ro_X1_at ho
  have n_o1 : NQ o1.2 := by rw [r_o1]; exact hN
  have k_o1 : KE S o1.2 := by rw [r_o1]; exact ke_0
  clear ho
  obtain ⟨-, hf⟩ := m_chkE hf
  obtain ⟨⟨r3, S4⟩, ho, hf⟩ := m_cal2E hf
  obtain ⟨n_S4, k_S4⟩ := ke_X3_putRemark n_o1 w_x2 ho
  replace k_S4 := ke_t k_o1 k_S4
  clear ho
  obtain ⟨q2, hf⟩ := m_chkE hf
  obtain ⟨b7, p_b7, hf⟩ := m_calE hf
  obtain ⟨q3, hf⟩ := m_chkE hf
  obtain ⟨q4, hf⟩ := m_chkE hf
  obtain ⟨b8, p_b8, hf⟩ := m_calE hf
  obtain ⟨q5, hf⟩ := m_chkE hf
  obtain ⟨b9, p_b9, hf⟩ := m_calE hf
  obtain ⟨q6, hf⟩ := m_chkE hf
  obtain ⟨o10, ho, hf⟩ := m_calE hf
  obtain ⟨n_o10, k_o10⟩ := ke_X0_copyFrom n_S4 (nq_cb n_S4 q3 (nq_cl n_S4 q2 (by decide) (Or.inl w_x0) p_b7) (fun h => q4 (Or.inr h)) p_b8) ho
  replace k_o10 := ke_t k_S4 k_o10
  clear ho
  obtain ⟨-, hf⟩ := m_chkE hf
  cases hf
  exact ⟨n_o10, k_o10⟩
theorem ke_X3_putHead_2s {o : Int32 × ZS} {self2 : Nat → Nat → Nat → Int32 → ZS → Option (Int32 × ZS)} {x0 : Nat} {x1 : Nat} {x2 : Nat} {x3 : Int32} {S : ZS} (hself2 : ∀ (z0 : Nat) (z1 : Nat) (z2 : Nat) (z3 : Int32) (S : ZS) (o : Int32 × ZS), WS z0 → WS z2 → NQ S → self2 z0 z1 z2 z3 S = some o → NQ o.2 ∧ KE S o.2) (hN : NQ S) (w_x0 : WS x0) (w_x2 : WS x2) (hf : d_X3_putHead_2s self2 x0 x1 x2 x3 S = some o) : NQ o.2 ∧ KE S o.2 := by
  unfold d_X3_putHead_2s at hf
  obtain ⟨q1, hf⟩ := m_chkE hf
  rcases m_ifE hf with ⟨-, hf⟩ | ⟨-, hf⟩
  ·
    obtain ⟨q2, hf⟩ := m_chkE hf
    rcases m_ifE hf with ⟨-, hf⟩ | ⟨-, hf⟩
    ·
      obtain ⟨n_9, k_9⟩ := ke_X3_putHead_72  hN w_x0 w_x2 hf
      exact ⟨n_9, ke_t ke_0 k_9⟩
    ·
      obtain ⟨q3, hf⟩ := m_chkE hf
      obtain ⟨⟨r2, S3⟩, ho, hf⟩ := m_cal2E hf
      obtain ⟨n_S3, k_S3⟩ := ke_X6_put hN w_x2 ho
      replace k_S3 := ke_t ke_0 k_S3
      clear ho
      obtain ⟨n_9, k_9⟩ := ke_X3_putHead_72  n_S3 w_x0 w_x2 hf
      exact ⟨n_9, ke_t k_S3 k_9⟩
  ·
    obtain ⟨q4, hf⟩ := m_chkE hf
    obtain ⟨⟨r7, S8⟩, ho, hf⟩ := m_cal2E hf
    obtain ⟨n_S8, k_S8⟩ := ke_X1_tagAt hN  ho
    replace k_S8 := ke_t ke_0 k_S8
    clear ho
    obtain ⟨q5, hf⟩ := m_chkE hf
    obtain ⟨⟨r12, S13⟩, ho, hf⟩ := m_cal2E hf
    obtain ⟨n_S13, k_S13⟩ := ke_X6_put n_S8 w_x2 ho
    replace k_S13 := ke_t k_S8 k_S13
    clear ho
    obtain ⟨q6, hf⟩ := m_chkE hf
    obtain ⟨b16, p_b16, hf⟩ := m_calE hf
    obtain ⟨q7, hf⟩ := m_chkE hf
    obtain ⟨⟨r18, S19⟩, ho, hf⟩ := m_cal2E hf
    obtain ⟨n_S19, k_S19⟩ := ke_X6_putAll n_S13 w_x2 ho
    replace k_S19 := ke_t k_S13 k_S19
    clear ho
    obtain ⟨q8, hf⟩ := m_chkE hf
    obtain ⟨⟨r23, S24⟩, ho, hf⟩ := m_cal2E hf
    obtain ⟨n_S24, k_S24⟩ := ke_X6_putText n_S19 w_x2 ho
    replace k_S24 := ke_t k_S19 k_S24
    clear ho
    obtain ⟨q9, hf⟩ := m_chkE hf
    obtain ⟨b27, p_b27, hf⟩ := m_calE hf
    obtain ⟨⟨r29, S30⟩, ho, hf⟩ := m_cal2E hf
    obtain ⟨n_S30, k_S30⟩ := ke_X3_putQuoted n_S24 w_x2 ho
    replace k_S30 := ke_t k_S24 k_S30
    clear ho
    obtain ⟨q10, hf⟩ := m_chkE hf
    obtain ⟨⟨r34, S35⟩, ho, hf⟩ := m_cal2E hf
    obtain ⟨n_S35, k_S35⟩ := ke_X6_putText n_S30 w_x2 ho
    replace k_S35 := ke_t k_S30 k_S35
    clear ho
    obtain ⟨v38, -, hf⟩ := m_bndE hf
    obtain ⟨n_9, k_9⟩ := hself2 _ _ _ _ _ _ w_x0 w_x2 n_S35 hf
    exact ⟨n_9, ke_t k_S35 k_9⟩
theorem ke_X3_putHead_2   (n : Nat) : ∀ (y0 : Nat) (y1 : Nat) (y2 : Nat) (y3 : Int32) (S : ZS) (o : Int32 × ZS), WS y0 → WS y2 → NQ S → d_X3_putHead_2  n y0 y1 y2 y3 S = some o → NQ o.2 ∧ KE S o.2 := by
  induction n with
  | zero => intro y0 y1 y2 y3 S o c0 c2 hN hf; cases hf
  | succ n ih => intro y0 y1 y2 y3 S o c0 c2 hN hf; exact ke_X3_putHead_2s ih hN c0 c2 hf
theorem ke_X3_putHead_0 {o : Int32 × ZS} {x0 : Nat} {x1 : Nat} {x2 : Nat} {S : ZS}  (hN : NQ S) (w_x0 : WS x0) (w_x2 : WS x2) (hf : d_X3_putHead_0 x0 x1 x2 S = some o) : NQ o.2 ∧ KE S o.2 := by
  unfold d_X3_putHead_0 at hf
  obtain ⟨n_9, k_9⟩ := ke_X3_putHead_2  _ _ _ _ _ _ _ w_x0 w_x2 hN hf
  exact ⟨n_9, ke_t ke_0 k_9⟩
theorem ke_X3_putHead {o : Int32 × ZS} {x0 : Nat} {x1 : Nat} {x2 : Nat} {S : ZS}  (hN : NQ S) (w_x0 : WS x0) (w_x2 : WS x2) (hf : d_X3_putHead x0 x1 x2 S = some o) : NQ o.2 ∧ KE S o.2 := by
  unfold d_X3_putHead at hf
  obtain ⟨n_9, k_9⟩ := ke_X3_putHead_0  hN w_x0 w_x2 hf
  exact ⟨n_9, ke_t ke_0 k_9⟩
theorem ke_X3_putEnd_0 {o : Int32 × ZS} {x1 : Nat} {x2 : Nat} {S : ZS}  (hN : NQ S) (w_x2 : WS x2) (hf : d_X3_putEnd_0 x1 x2 S = some o) : NQ o.2 ∧ KE S o.2 := by
  unfold d_X3_putEnd_0 at hf
  obtain ⟨⟨r2, S3⟩, ho, hf⟩ := m_cal2E hf
  obtain ⟨n_S3, k_S3⟩ := ke_X3_putGap hN w_x2 ho
  replace k_S3 := ke_t ke_0 k_S3
  clear ho
  obtain ⟨q1, hf⟩ := m_chkE hf
  obtain ⟨o6, ho, hf⟩ := m_calE hf
  have r_o6 := ro_X11_resultSign ho
  have n_o6 : NQ o6.2 := by rw [r_o6]; exact n_S3
  have k_o6 : KE S o6.2 := by rw [r_o6]; exact k_S3
  clear ho
  obtain ⟨-, hf⟩ := m_chkE hf
  obtain ⟨q2, hf⟩ := m_chkE hf
  obtain ⟨⟨r8, S9⟩, ho, hf⟩ := m_cal2E hf
  obtain ⟨n_S9, k_S9⟩ := ke_X6_putText n_o6 w_x2 ho
  replace k_S9 := ke_t k_o6 k_S9
  clear ho
  cases hf
  exact ⟨n_S9, k_S9⟩
theorem ke_X3_putEnd {o : Int32 × ZS} {x0 : Nat} {x1 : Nat} {x2 : Nat} {S : ZS}  (hN : NQ S) (w_x2 : WS x2) (hf : d_X3_putEnd x0 x1 x2 S = some o) : NQ o.2 ∧ KE S o.2 := by
  unfold d_X3_putEnd at hf
  obtain ⟨n_9, k_9⟩ := ke_X3_putEnd_0  hN w_x2 hf
  exact ⟨n_9, ke_t ke_0 k_9⟩
theorem ke_X6_putNumber_29s {o : Int32 × ZS} {self29 : Nat → Int32 → Int32 → ZS → Option (Int32 × ZS)} {x0 : Nat} {x1 : Int32} {x2 : Int32} {S : ZS} (hself29 : ∀ (z0 : Nat) (z1 : Int32) (z2 : Int32) (S : ZS) (o : Int32 × ZS), WS z0 → NQ S → self29 z0 z1 z2 S = some o → NQ o.2 ∧ KE S o.2) (hN : NQ S) (w_x0 : WS x0) (hf : d_X6_putNumber_29s self29 x0 x1 x2 S = some o) : NQ o.2 ∧ KE S o.2 := by
  unfold d_X6_putNumber_29s at hf
  rcases m_ifE hf with ⟨-, hf⟩ | ⟨-, hf⟩
  ·
    cases hf
    exact ⟨hN, ke_0⟩
  ·
    obtain ⟨-, hf⟩ := m_chkE hf
    obtain ⟨v1, -, hf⟩ := m_bndE hf
    obtain ⟨v2, -, hf⟩ := m_bndE hf
    obtain ⟨v3, -, hf⟩ := m_bndE hf
    obtain ⟨v4, -, hf⟩ := m_bndE hf
    obtain ⟨q1, hf⟩ := m_chkE hf
    obtain ⟨⟨r6, S7⟩, ho, hf⟩ := m_cal2E hf
    obtain ⟨n_S7, k_S7⟩ := ke_X6_put hN w_x0 ho
    replace k_S7 := ke_t ke_0 k_S7
    clear ho
    obtain ⟨v10, -, hf⟩ := m_bndE hf
    obtain ⟨n_9, k_9⟩ := hself29 _ _ _ _ _ w_x0 n_S7 hf
    exact ⟨n_9, ke_t k_S7 k_9⟩
theorem ke_X6_putNumber_29   (n : Nat) : ∀ (y0 : Nat) (y1 : Int32) (y2 : Int32) (S : ZS) (o : Int32 × ZS), WS y0 → NQ S → d_X6_putNumber_29  n y0 y1 y2 S = some o → NQ o.2 ∧ KE S o.2 := by
  induction n with
  | zero => intro y0 y1 y2 S o c0 hN hf; cases hf
  | succ n ih => intro y0 y1 y2 S o c0 hN hf; exact ke_X6_putNumber_29s ih hN c0 hf
theorem ke_X6_putNumber_4s {o : Int32 × ZS} {self4 : Nat → Int32 → Int32 → Int32 → ZS → Option (Int32 × ZS)} {x0 : Nat} {x1 : Int32} {x2 : Int32} {x3 : Int32} {S : ZS} (hself4 : ∀ (z0 : Nat) (z1 : Int32) (z2 : Int32) (z3 : Int32) (S : ZS) (o : Int32 × ZS), WS z0 → NQ S → self4 z0 z1 z2 z3 S = some o → NQ o.2 ∧ KE S o.2) (hN : NQ S) (w_x0 : WS x0) (hf : d_X6_putNumber_4s self4 x0 x1 x2 x3 S = some o) : NQ o.2 ∧ KE S o.2 := by
  unfold d_X6_putNumber_4s at hf
  rcases m_ifE hf with ⟨-, hf⟩ | ⟨-, hf⟩
  ·
    obtain ⟨n_9, k_9⟩ := ke_X6_putNumber_29  _ _ _ _ _ _ w_x0 hN hf
    exact ⟨n_9, ke_t ke_0 k_9⟩
  ·
    obtain ⟨-, hf⟩ := m_chkE hf
    obtain ⟨v1, -, hf⟩ := m_bndE hf
    rcases m_ifE hf with ⟨-, hf⟩ | ⟨-, hf⟩
    ·
      obtain ⟨n_9, k_9⟩ := ke_X6_putNumber_29  _ _ _ _ _ _ w_x0 hN hf
      exact ⟨n_9, ke_t ke_0 k_9⟩
    ·
      obtain ⟨v2, -, hf⟩ := m_bndE hf
      obtain ⟨v3, -, hf⟩ := m_bndE hf
      obtain ⟨n_9, k_9⟩ := hself4 _ _ _ _ _ _ w_x0 hN hf
      exact ⟨n_9, ke_t ke_0 k_9⟩
theorem ke_X6_putNumber_4   (n : Nat) : ∀ (y0 : Nat) (y1 : Int32) (y2 : Int32) (y3 : Int32) (S : ZS) (o : Int32 × ZS), WS y0 → NQ S → d_X6_putNumber_4  n y0 y1 y2 y3 S = some o → NQ o.2 ∧ KE S o.2 := by
  induction n with
  | zero => intro y0 y1 y2 y3 S o c0 hN hf; cases hf
  | succ n ih => intro y0 y1 y2 y3 S o c0 hN hf; exact ke_X6_putNumber_4s ih hN c0 hf
theorem ke_X6_putNumber_0 {o : Int32 × ZS} {x0 : Nat} {x1 : Int32} {S : ZS}  (hN : NQ S) (w_x0 : WS x0) (hf : d_X6_putNumber_0 x0 x1 S = some o) : NQ o.2 ∧ KE S o.2 := by
  unfold d_X6_putNumber_0 at hf
  obtain ⟨n_9, k_9⟩ := ke_X6_putNumber_4  _ _ _ _ _ _ _ w_x0 hN hf
  exact ⟨n_9, ke_t ke_0 k_9⟩
theorem ke_X6_putNumber {o : Int32 × ZS} {x0 : Nat} {x1 : Int32} {S : ZS}  (hN : NQ S) (w_x0 : WS x0) (hf : d_X6_putNumber x0 x1 S = some o) : NQ o.2 ∧ KE S o.2 := by
  unfold d_X6_putNumber at hf
  obtain ⟨n_9, k_9⟩ := ke_X6_putNumber_0  hN w_x0 hf
  exact ⟨n_9, ke_t ke_0 k_9⟩
theorem ke_X9_putApart_162 {o : Int32 × ZS} {S : ZS}  (hN : NQ S)  (hf : d_X9_putApart_162 S = some o) : NQ o.2 ∧ KE S o.2 := by
  unfold d_X9_putApart_162 at hf
  cases hf
  exact ⟨hN, ke_0⟩
theorem ke_X9_putApart_148 {o : Int32 × ZS} {x2 : Int32} {x4 : Nat} {x6 : Int32} {S : ZS}  (hN : NQ S) (w_x4 : WS x4) (hf : d_X9_putApart_148 x2 x4 x6 S = some o) : NQ o.2 ∧ KE S o.2 := by
  unfold d_X9_putApart_148 at hf
  rcases m_ifE hf with ⟨-, hf⟩ | ⟨-, hf⟩
  ·
    obtain ⟨n_9, k_9⟩ := ke_X9_putApart_162  hN  hf
    exact ⟨n_9, ke_t ke_0 k_9⟩
  ·
    obtain ⟨o1, ho, hf⟩ := m_calE hf
    have r_o1 := ro_X11_rankDigit ho
    have n_o1 : NQ o1.2 := by rw [r_o1]; exact hN
    have k_o1 : KE S o1.2 := by rw [r_o1]; exact ke_0
    clear ho
    obtain ⟨-, hf⟩ := m_chkE hf
    obtain ⟨q1, hf⟩ := m_chkE hf
    obtain ⟨⟨r3, S4⟩, ho, hf⟩ := m_cal2E hf
    obtain ⟨n_S4, k_S4⟩ := ke_X6_put n_o1 w_x4 ho
    replace k_S4 := ke_t k_o1 k_S4
    clear ho
    obtain ⟨n_9, k_9⟩ := ke_X9_putApart_162  n_S4  hf
    exact ⟨n_9, ke_t k_S4 k_9⟩
theorem ke_X9_putApart_139 {o : Int32 × ZS} {x2 : Int32} {x4 : Nat} {x6 : Int32} {S : ZS}  (hN : NQ S) (w_x4 : WS x4) (hf : d_X9_putApart_139 x2 x4 x6 S = some o) : NQ o.2 ∧ KE S o.2 := by
  unfold d_X9_putApart_139 at hf
  obtain ⟨o1, ho, hf⟩ := m_calE hf
  have r_o1 := ro_X11_fileLetter ho
  have n_o1 : NQ o1.2 := by rw [r_o1]; exact hN
  have k_o1 : KE S o1.2 := by rw [r_o1]; exact ke_0
  clear ho
  obtain ⟨-, hf⟩ := m_chkE hf
  obtain ⟨q1, hf⟩ := m_chkE hf
  obtain ⟨⟨r3, S4⟩, ho, hf⟩ := m_cal2E hf
  obtain ⟨n_S4, k_S4⟩ := ke_X6_put n_o1 w_x4 ho
  replace k_S4 := ke_t k_o1 k_S4
  clear ho
  obtain ⟨n_9, k_9⟩ := ke_X9_putApart_148  n_S4 w_x4 hf
  exact ⟨n_9, ke_t k_S4 k_9⟩
theorem ke_X9_putApart_118 {o : Int32 × ZS} {self12 : Nat → Nat → Int32 → Int32 → Nat → Int32 → Int32 → Int32 → Int32 → ZS → Option (Int32 × ZS)} {x0 : Nat} {x1 : Nat} {x2 : Int32} {x3 : Int32} {x4 : Nat} {x5 : Int32} {x6 : Int32} {x7 : Int32} {x8 : Int32} {S : ZS} (hself12 : ∀ (z0 : Nat) (z1 : Nat) (z2 : Int32) (z3 : Int32) (z4 : Nat) (z5 : Int32) (z6 : Int32) (z7 : Int32) (z8 : Int32) (S : ZS) (o : Int32 × ZS), WS z0 → WS z4 → NQ S → self12 z0 z1 z2 z3 z4 z5 z6 z7 z8 S = some o → NQ o.2 ∧ KE S o.2) (hN : NQ S) (w_x0 : WS x0) (w_x4 : WS x4) (hf : d_X9_putApart_118 self12 x0 x1 x2 x3 x4 x5 x6 x7 x8 S = some o) : NQ o.2 ∧ KE S o.2 := by
  unfold d_X9_putApart_118 at hf
  obtain ⟨v1, -, hf⟩ := m_bndE hf
  obtain ⟨n_9, k_9⟩ := hself12 _ _ _ _ _ _ _ _ _ _ _ w_x0 w_x4 hN hf
  exact ⟨n_9, ke_t ke_0 k_9⟩
theorem ke_X9_putApart_116 {o : Int32 × ZS} {self12 : Nat → Nat → Int32 → Int32 → Nat → Int32 → Int32 → Int32 → Int32 → ZS → Option (Int32 × ZS)} {x0 : Nat} {x1 : Nat} {x2 : Int32} {x3 : Int32} {x4 : Nat} {x5 : Int32} {x6 : Int32} {x8 : Int32} {t0 : Int32} {S : ZS} (hself12 : ∀ (z0 : Nat) (z1 : Nat) (z2 : Int32) (z3 : Int32) (z4 : Nat) (z5 : Int32) (z6 : Int32) (z7 : Int32) (z8 : Int32) (S : ZS) (o : Int32 × ZS), WS z0 → WS z4 → NQ S → self12 z0 z1 z2 z3 z4 z5 z6 z7 z8 S = some o → NQ o.2 ∧ KE S o.2) (hN : NQ S) (w_x0 : WS x0) (w_x4 : WS x4) (hf : d_X9_putApart_116 self12 x0 x1 x2 x3 x4 x5 x6 x8 t0 S = some o) : NQ o.2 ∧ KE S o.2 := by
  unfold d_X9_putApart_116 at hf
  obtain ⟨n_9, k_9⟩ := ke_X9_putApart_118 hself12 hN w_x0 w_x4 hf
  exact ⟨n_9, ke_t ke_0 k_9⟩
theorem ke_X9_putApart_111 {o : Int32 × ZS} {self12 : Nat → Nat → Int32 → Int32 → Nat → Int32 → Int32 → Int32 → Int32 → ZS → Option (Int32 × ZS)} {x0 : Nat} {x1 : Nat} {x2 : Int32} {x3 : Int32} {x4 : Nat} {x5 : Int32} {x6 : Int32} {x8 : Int32} {S : ZS} (hself12 : ∀ (z0 : Nat) (z1 : Nat) (z2 : Int32) (z3 : Int32) (z4 : Nat) (z5 : Int32) (z6 : Int32) (z7 : Int32) (z8 : Int32) (S : ZS) (o : Int32 × ZS), WS z0 → WS z4 → NQ S → self12 z0 z1 z2 z3 z4 z5 z6 z7 z8 S = some o → NQ o.2 ∧ KE S o.2) (hN : NQ S) (w_x0 : WS x0) (w_x4 : WS x4) (hf : d_X9_putApart_111 self12 x0 x1 x2 x3 x4 x5 x6 x8 S = some o) : NQ o.2 ∧ KE S o.2 := by
  unfold d_X9_putApart_111 at hf
  obtain ⟨n_9, k_9⟩ := ke_X9_putApart_116 hself12 hN w_x0 w_x4 hf
  exact ⟨n_9, ke_t ke_0 k_9⟩
theorem ke_X9_putApart_94 {o : Int32 × ZS} {self12 : Nat → Nat → Int32 → Int32 → Nat → Int32 → Int32 → Int32 → Int32 → ZS → Option (Int32 × ZS)} {x0 : Nat} {x1 : Nat} {x2 : Int32} {x3 : Int32} {x4 : Nat} {x5 : Int32} {x7 : Int32} {x8 : Int32} {t0 : Int32} {S : ZS} (hself12 : ∀ (z0 : Nat) (z1 : Nat) (z2 : Int32) (z3 : Int32) (z4 : Nat) (z5 : Int32) (z6 : Int32) (z7 : Int32) (z8 : Int32) (S : ZS) (o : Int32 × ZS), WS z0 → WS z4 → NQ S → self12 z0 z1 z2 z3 z4 z5 z6 z7 z8 S = some o → NQ o.2 ∧ KE S o.2) (hN : NQ S) (w_x0 : WS x0) (w_x4 : WS x4) (hf : d_X9_putApart_94 self12 x0 x1 x2 x3 x4 x5 x7 x8 t0 S = some o) : NQ o.2 ∧ KE S o.2 := by
  unfold d_X9_putApart_94 at hf
  rcases m_ifE hf with ⟨-, hf⟩ | ⟨-, hf⟩
  ·
    obtain ⟨v1, -, hf⟩ := m_bndE hf
    obtain ⟨v2, -, hf⟩ := m_bndE hf
    rcases m_ifE hf with ⟨-, hf⟩ | ⟨-, hf⟩
    ·
      obtain ⟨n_9, k_9⟩ := ke_X9_putApart_111 hself12 hN w_x0 w_x4 hf
      exact ⟨n_9, ke_t ke_0 k_9⟩
    ·
      obtain ⟨n_9, k_9⟩ := ke_X9_putApart_116 hself12 hN w_x0 w_x4 hf
      exact ⟨n_9, ke_t ke_0 k_9⟩
  ·
    obtain ⟨n_9, k_9⟩ := ke_X9_putApart_111 hself12 hN w_x0 w_x4 hf
    exact ⟨n_9, ke_t ke_0 k_9⟩
theorem ke_X9_putApart_89 {o : Int32 × ZS} {self12 : Nat → Nat → Int32 → Int32 → Nat → Int32 → Int32 → Int32 → Int32 → ZS → Option (Int32 × ZS)} {x0 : Nat} {x1 : Nat} {x2 : Int32} {x3 : Int32} {x4 : Nat} {x5 : Int32} {x7 : Int32} {x8 : Int32} {S : ZS} (hself12 : ∀ (z0 : Nat) (z1 : Nat) (z2 : Int32) (z3 : Int32) (z4 : Nat) (z5 : Int32) (z6 : Int32) (z7 : Int32) (z8 : Int32) (S : ZS) (o : Int32 × ZS), WS z0 → WS z4 → NQ S → self12 z0 z1 z2 z3 z4 z5 z6 z7 z8 S = some o → NQ o.2 ∧ KE S o.2) (hN : NQ S) (w_x0 : WS x0) (w_x4 : WS x4) (hf : d_X9_putApart_89 self12 x0 x1 x2 x3 x4 x5 x7 x8 S = some o) : NQ o.2 ∧ KE S o.2 := by
  unfold d_X9_putApart_89 at hf
  obtain ⟨n_9, k_9⟩ := ke_X9_putApart_94 hself12 hN w_x0 w_x4 hf
  exact ⟨n_9, ke_t ke_0 k_9⟩
theorem ke_X9_putApart_12s {o : Int32 × ZS} {self12 : Nat → Nat → Int32 → Int32 → Nat → Int32 → Int32 → Int32 → Int32 → ZS → Option (Int32 × ZS)} {x0 : Nat} {x1 : Nat} {x2 : Int32} {x3 : Int32} {x4 : Nat} {x5 : Int32} {x6 : Int32} {x7 : Int32} {x8 : Int32} {S : ZS} (hself12 : ∀ (z0 : Nat) (z1 : Nat) (z2 : Int32) (z3 : Int32) (z4 : Nat) (z5 : Int32) (z6 : Int32) (z7 : Int32) (z8 : Int32) (S : ZS) (o : Int32 × ZS), WS z0 → WS z4 → NQ S → self12 z0 z1 z2 z3 z4 z5 z6 z7 z8 S = some o → NQ o.2 ∧ KE S o.2) (hN : NQ S) (w_x0 : WS x0) (w_x4 : WS x4) (hf : d_X9_putApart_12s self12 x0 x1 x2 x3 x4 x5 x6 x7 x8 S = some o) : NQ o.2 ∧ KE S o.2 := by
  unfold d_X9_putApart_12s at hf
  rcases m_ifE hf with ⟨-, hf⟩ | ⟨-, hf⟩
  ·
    rcases m_ifE hf with ⟨-, hf⟩ | ⟨-, hf⟩
    ·
      obtain ⟨n_9, k_9⟩ := ke_X9_putApart_148  hN w_x4 hf
      exact ⟨n_9, ke_t ke_0 k_9⟩
    ·
      rcases m_ifE hf with ⟨-, hf⟩ | ⟨-, hf⟩
      ·
        obtain ⟨n_9, k_9⟩ := ke_X9_putApart_139  hN w_x4 hf
        exact ⟨n_9, ke_t ke_0 k_9⟩
      ·
        rcases m_ifE hf with ⟨-, hf⟩ | ⟨-, hf⟩
        ·
          obtain ⟨n_9, k_9⟩ := ke_X9_putApart_148  hN w_x4 hf
          exact ⟨n_9, ke_t ke_0 k_9⟩
        ·
          obtain ⟨n_9, k_9⟩ := ke_X9_putApart_139  hN w_x4 hf
          exact ⟨n_9, ke_t ke_0 k_9⟩
  ·
    rcases m_ifE hf with ⟨-, hf⟩ | ⟨-, hf⟩
    ·
      obtain ⟨n_9, k_9⟩ := ke_X9_putApart_118 hself12 hN w_x0 w_x4 hf
      exact ⟨n_9, ke_t ke_0 k_9⟩
    ·
      obtain ⟨q1, hf⟩ := m_chkE hf
      obtain ⟨b1, p_b1, hf⟩ := m_calE hf
      obtain ⟨q2, hf⟩ := m_chkE hf
      obtain ⟨q3, hf⟩ := m_chkE hf
      obtain ⟨v2, -, hf⟩ := m_bndE hf
      obtain ⟨q4, hf⟩ := m_chkE hf
      obtain ⟨b3, p_b3, hf⟩ := m_calE hf
      obtain ⟨q5, hf⟩ := m_chkE hf
      obtain ⟨q6, hf⟩ := m_chkE hf
      obtain ⟨v4, -, hf⟩ := m_bndE hf
      rcases m_ifE hf with ⟨-, hf⟩ | ⟨-, hf⟩
      ·
        obtain ⟨q7, hf⟩ := m_chkE hf
        obtain ⟨o5, ho, hf⟩ := m_calE hf
        have r_o5 := ro_X0_reaches ho
        have n_o5 : NQ o5.2 := by rw [r_o5]; exact hN
        have k_o5 : KE S o5.2 := by rw [r_o5]; exact ke_0
        clear ho
        obtain ⟨-, hf⟩ := m_chkE hf
        rcases m_ifE hf with ⟨-, hf⟩ | ⟨-, hf⟩
        ·
          obtain ⟨n_9, k_9⟩ := ke_X9_putApart_118 hself12 n_o5 w_x0 w_x4 hf
          exact ⟨n_9, ke_t k_o5 k_9⟩
        ·
          obtain ⟨q8, hf⟩ := m_chkE hf
          obtain ⟨b6, p_b6, hf⟩ := m_calE hf
          obtain ⟨v7, -, hf⟩ := m_bndE hf
          obtain ⟨v8, -, hf⟩ := m_bndE hf
          obtain ⟨q9, hf⟩ := m_chkE hf
          obtain ⟨o9, ho, hf⟩ := m_calE hf
          obtain ⟨n_o9, k_o9⟩ := ke_X7_isSafe n_o5 (nq_cl n_o5 q8 (by decide) (Or.inl w_x0) p_b6) ho
          replace k_o9 := ke_t k_o5 k_o9
          clear ho
          obtain ⟨-, hf⟩ := m_chkE hf
          rcases m_ifE hf with ⟨-, hf⟩ | ⟨-, hf⟩
          ·
            obtain ⟨n_9, k_9⟩ := ke_X9_putApart_118 hself12 n_o9 w_x0 w_x4 hf
            exact ⟨n_9, ke_t k_o9 k_9⟩
          ·
            rcases m_ifE hf with ⟨-, hf⟩ | ⟨-, hf⟩
            ·
              obtain ⟨v10, -, hf⟩ := m_bndE hf
              obtain ⟨v11, -, hf⟩ := m_bndE hf
              rcases m_ifE hf with ⟨-, hf⟩ | ⟨-, hf⟩
              ·
                obtain ⟨n_9, k_9⟩ := ke_X9_putApart_89 hself12 n_o9 w_x0 w_x4 hf
                exact ⟨n_9, ke_t k_o9 k_9⟩
              ·
                obtain ⟨n_9, k_9⟩ := ke_X9_putApart_94 hself12 n_o9 w_x0 w_x4 hf
                exact ⟨n_9, ke_t k_o9 k_9⟩
            ·
              obtain ⟨n_9, k_9⟩ := ke_X9_putApart_89 hself12 n_o9 w_x0 w_x4 hf
              exact ⟨n_9, ke_t k_o9 k_9⟩
      ·
        obtain ⟨n_9, k_9⟩ := ke_X9_putApart_118 hself12 hN w_x0 w_x4 hf
        exact ⟨n_9, ke_t ke_0 k_9⟩
theorem ke_X9_putApart_12   (n : Nat) : ∀ (y0 : Nat) (y1 : Nat) (y2 : Int32) (y3 : Int32) (y4 : Nat) (y5 : Int32) (y6 : Int32) (y7 : Int32) (y8 : Int32) (S : ZS) (o : Int32 × ZS), WS y0 → WS y4 → NQ S → d_X9_putApart_12  n y0 y1 y2 y3 y4 y5 y6 y7 y8 S = some o → NQ o.2 ∧ KE S o.2 := by
  induction n with
  | zero => intro y0 y1 y2 y3 y4 y5 y6 y7 y8 S o c0 c4 hN hf; cases hf
  | succ n ih => intro y0 y1 y2 y3 y4 y5 y6 y7 y8 S o c0 c4 hN hf; exact ke_X9_putApart_12s ih hN c0 c4 hf
theorem ke_X9_putApart_0 {o : Int32 × ZS} {x0 : Nat} {x1 : Nat} {x2 : Int32} {x3 : Int32} {x4 : Nat} {S : ZS}  (hN : NQ S) (w_x0 : WS x0) (w_x4 : WS x4) (hf : d_X9_putApart_0 x0 x1 x2 x3 x4 S = some o) : NQ o.2 ∧ KE S o.2 := by
  unfold d_X9_putApart_0 at hf
  obtain ⟨n_9, k_9⟩ := ke_X9_putApart_12  _ _ _ _ _ _ _ _ _ _ _ _ w_x0 w_x4 hN hf
  exact ⟨n_9, ke_t ke_0 k_9⟩
theorem ke_X9_putApart {o : Int32 × ZS} {x0 : Nat} {x1 : Nat} {x2 : Int32} {x3 : Int32} {x4 : Nat} {S : ZS}  (hN : NQ S) (w_x0 : WS x0) (w_x4 : WS x4) (hf : d_X9_putApart x0 x1 x2 x3 x4 S = some o) : NQ o.2 ∧ KE S o.2 := by
  unfold d_X9_putApart at hf
  obtain ⟨n_9, k_9⟩ := ke_X9_putApart_0  hN w_x0 w_x4 hf
  exact ⟨n_9, ke_t ke_0 k_9⟩
theorem ke_X9_putSigns_182 {o : Int32 × ZS} {S : ZS}  (hN : NQ S)  (hf : d_X9_putSigns_182 S = some o) : NQ o.2 ∧ KE S o.2 := by
  unfold d_X9_putSigns_182 at hf
  cases hf
  exact ⟨hN, ke_0⟩
theorem ke_X9_putSigns_160 {o : Int32 × ZS} {x0 : Nat} {x1 : Nat} {x2 : Int32} {x3 : Nat} {S : ZS}  (hN : NQ S) (w_x0 : WS x0) (w_x3 : WS x3) (hf : d_X9_putSigns_160 x0 x1 x2 x3 S = some o) : NQ o.2 ∧ KE S o.2 := by
  unfold d_X9_putSigns_160 at hf
  obtain ⟨q1, hf⟩ := m_chkE hf
  obtain ⟨b1, p_b1, hf⟩ := m_calE hf
  obtain ⟨q2, hf⟩ := m_chkE hf
  obtain ⟨o2, ho, hf⟩ := m_calE hf
  obtain ⟨n_o2, k_o2⟩ := ke_X7_checkSign hN (nq_cl hN q1 (by decide) (Or.inl w_x0) p_b1) ho
  replace k_o2 := ke_t ke_0 k_o2
  clear ho
  obtain ⟨-, hf⟩ := m_chkE hf
  rcases m_ifE hf with ⟨-, hf⟩ | ⟨-, hf⟩
  ·
    obtain ⟨n_9, k_9⟩ := ke_X9_putSigns_182  n_o2  hf
    exact ⟨n_9, ke_t k_o2 k_9⟩
  ·
    obtain ⟨q3, hf⟩ := m_chkE hf
    obtain ⟨⟨r4, S5⟩, ho, hf⟩ := m_cal2E hf
    obtain ⟨n_S5, k_S5⟩ := ke_X6_put n_o2 w_x3 ho
    replace k_S5 := ke_t k_o2 k_S5
    clear ho
    obtain ⟨n_9, k_9⟩ := ke_X9_putSigns_182  n_S5  hf
    exact ⟨n_9, ke_t k_S5 k_9⟩
theorem ke_X9_putSigns_136 {o : Int32 × ZS} {x0 : Nat} {x1 : Nat} {x2 : Int32} {x3 : Nat} {S : ZS}  (hN : NQ S) (w_x0 : WS x0) (w_x3 : WS x3) (hf : d_X9_putSigns_136 x0 x1 x2 x3 S = some o) : NQ o.2 ∧ KE S o.2 := by
  unfold d_X9_putSigns_136 at hf
  rcases m_ifE hf with ⟨-, hf⟩ | ⟨-, hf⟩
  ·
    obtain ⟨n_9, k_9⟩ := ke_X9_putSigns_160  hN w_x0 w_x3 hf
    exact ⟨n_9, ke_t ke_0 k_9⟩
  ·
    obtain ⟨q1, hf⟩ := m_chkE hf
    obtain ⟨⟨r2, S3⟩, ho, hf⟩ := m_cal2E hf
    obtain ⟨n_S3, k_S3⟩ := ke_X6_put hN w_x3 ho
    replace k_S3 := ke_t ke_0 k_S3
    clear ho
    obtain ⟨v6, -, hf⟩ := m_bndE hf
    obtain ⟨o7, ho, hf⟩ := m_calE hf
    have r_o7 := ro_X11_letterOf ho
    have n_o7 : NQ o7.2 := by rw [r_o7]; exact n_S3
    have k_o7 : KE S o7.2 := by rw [r_o7]; exact k_S3
    clear ho
    obtain ⟨-, hf⟩ := m_chkE hf
    obtain ⟨q2, hf⟩ := m_chkE hf
    obtain ⟨⟨r9, S10⟩, ho, hf⟩ := m_cal2E hf
    obtain ⟨n_S10, k_S10⟩ := ke_X6_put n_o7 w_x3 ho
    replace k_S10 := ke_t k_o7 k_S10
    clear ho
    obtain ⟨n_9, k_9⟩ := ke_X9_putSigns_160  n_S10 w_x0 w_x3 hf
    exact ⟨n_9, ke_t k_S10 k_9⟩
theorem ke_X9_putSigns_118 {o : Int32 × ZS} {x0 : Nat} {x1 : Nat} {x2 : Int32} {x3 : Nat} {x5 : Int32} {S : ZS}  (hN : NQ S) (w_x0 : WS x0) (w_x3 : WS x3) (hf : d_X9_putSigns_118 x0 x1 x2 x3 x5 S = some o) : NQ o.2 ∧ KE S o.2 := by
  unfold d_X9_putSigns_118 at hf
  obtain ⟨o1, ho, hf⟩ := m_calE hf
  have r_o1 := ro_X11_fileLetter ho
  have n_o1 : NQ o1.2 := by rw [r_o1]; exact hN
  have k_o1 : KE S o1.2 := by rw [r_o1]; exact ke_0
  clear ho
  obtain ⟨-, hf⟩ := m_chkE hf
  obtain ⟨q1, hf⟩ := m_chkE hf
  obtain ⟨⟨r3, S4⟩, ho, hf⟩ := m_cal2E hf
  obtain ⟨n_S4, k_S4⟩ := ke_X6_put n_o1 w_x3 ho
  replace k_S4 := ke_t k_o1 k_S4
  clear ho
  obtain ⟨o7, ho, hf⟩ := m_calE hf
  have r_o7 := ro_X11_rankDigit ho
  have n_o7 : NQ o7.2 := by rw [r_o7]; exact n_S4
  have k_o7 : KE S o7.2 := by rw [r_o7]; exact k_S4
  clear ho
  obtain ⟨-, hf⟩ := m_chkE hf
  obtain ⟨q2, hf⟩ := m_chkE hf
  obtain ⟨⟨r9, S10⟩, ho, hf⟩ := m_cal2E hf
  obtain ⟨n_S10, k_S10⟩ := ke_X6_put n_o7 w_x3 ho
  replace k_S10 := ke_t k_o7 k_S10
  clear ho
  obtain ⟨n_9, k_9⟩ := ke_X9_putSigns_136  n_S10 w_x0 w_x3 hf
  exact ⟨n_9, ke_t k_S10 k_9⟩
theorem ke_X9_putSigns_107 {o : Int32 × ZS} {x0 : Nat} {x1 : Nat} {x2 : Int32} {x3 : Nat} {x5 : Int32} {x6 : Int32} {S : ZS}  (hN : NQ S) (w_x0 : WS x0) (w_x3 : WS x3) (hf : d_X9_putSigns_107 x0 x1 x2 x3 x5 x6 S = some o) : NQ o.2 ∧ KE S o.2 := by
  unfold d_X9_putSigns_107 at hf
  rcases m_ifE hf with ⟨-, hf⟩ | ⟨-, hf⟩
  ·
    obtain ⟨n_9, k_9⟩ := ke_X9_putSigns_118  hN w_x0 w_x3 hf
    exact ⟨n_9, ke_t ke_0 k_9⟩
  ·
    obtain ⟨q1, hf⟩ := m_chkE hf
    obtain ⟨⟨r2, S3⟩, ho, hf⟩ := m_cal2E hf
    obtain ⟨n_S3, k_S3⟩ := ke_X6_put hN w_x3 ho
    replace k_S3 := ke_t ke_0 k_S3
    clear ho
    obtain ⟨n_9, k_9⟩ := ke_X9_putSigns_118  n_S3 w_x0 w_x3 hf
    exact ⟨n_9, ke_t k_S3 k_9⟩
theorem ke_X9_putSigns_41 {o : Int32 × ZS} {x0 : Nat} {x1 : Nat} {x2 : Int32} {x3 : Nat} {t0 : Nat} {t1 : Nat} {S : ZS}  (hN : NQ S) (w_x0 : WS x0) (w_x3 : WS x3) (w_t1 : WS t1) (hf : d_X9_putSigns_41 x0 x1 x2 x3 t0 t1 S = some o) : NQ o.2 ∧ KE S o.2 := by
  unfold d_X9_putSigns_41 at hf
  obtain ⟨q1, hf⟩ := m_chkE hf
  obtain ⟨⟨r2, S3⟩, ho, hf⟩ := m_cal2E hf
  obtain ⟨n_S3, k_S3⟩ := ke_X6_putText hN w_t1 ho
  replace k_S3 := ke_t ke_0 k_S3
  clear ho
  obtain ⟨n_9, k_9⟩ := ke_X9_putSigns_136  n_S3 w_x0 w_x3 hf
  exact ⟨n_9, ke_t k_S3 k_9⟩
theorem ke_X9_putSigns_0 {o : Int32 × ZS} {x0 : Nat} {x1 : Nat} {x2 : Int32} {x3 : Nat} {S : ZS}  (hN : NQ S) (w_x0 : WS x0) (w_x3 : WS x3) (hf : d_X9_putSigns_0 x0 x1 x2 x3 S = some o) : NQ o.2 ∧ KE S o.2 := by
  unfold d_X9_putSigns_0 at hf
  obtain ⟨v1, -, hf⟩ := m_bndE hf
  obtain ⟨v2, -, hf⟩ := m_bndE hf
  obtain ⟨v3, -, hf⟩ := m_bndE hf
  obtain ⟨q1, hf⟩ := m_chkE hf
  obtain ⟨o4, ho, hf⟩ := m_calE hf
  have r_o4 := ro_X0_castles ho
  have n_o4 : NQ o4.2 := by rw [r_o4]; exact hN
  have k_o4 : KE S o4.2 := by rw [r_o4]; exact ke_0
  clear ho
  obtain ⟨-, hf⟩ := m_chkE hf
  rcases m_ifE hf with ⟨-, hf⟩ | ⟨-, hf⟩
  ·
    obtain ⟨q2, hf⟩ := m_chkE hf
    obtain ⟨o5, ho, hf⟩ := m_calE hf
    have r_o5 := ro_X0_takes ho
    have n_o5 : NQ o5.2 := by rw [r_o5]; exact n_o4
    have k_o5 : KE S o5.2 := by rw [r_o5]; exact k_o4
    clear ho
    obtain ⟨-, hf⟩ := m_chkE hf
    obtain ⟨q3, hf⟩ := m_chkE hf
    obtain ⟨o6, ho, hf⟩ := m_calE hf
    have r_o6 := ro_X0_kindAt ho
    have n_o6 : NQ o6.2 := by rw [r_o6]; exact n_o5
    have k_o6 : KE S o6.2 := by rw [r_o6]; exact k_o5
    clear ho
    obtain ⟨-, hf⟩ := m_chkE hf
    rcases m_ifE hf with ⟨-, hf⟩ | ⟨-, hf⟩
    ·
      rcases m_ifE hf with ⟨-, hf⟩ | ⟨-, hf⟩
      ·
        obtain ⟨n_9, k_9⟩ := ke_X9_putSigns_107  n_o6 w_x0 w_x3 hf
        exact ⟨n_9, ke_t k_o6 k_9⟩
      ·
        obtain ⟨o7, ho, hf⟩ := m_calE hf
        have r_o7 := ro_X11_fileLetter ho
        have n_o7 : NQ o7.2 := by rw [r_o7]; exact n_o6
        have k_o7 : KE S o7.2 := by rw [r_o7]; exact k_o6
        clear ho
        obtain ⟨-, hf⟩ := m_chkE hf
        obtain ⟨q4, hf⟩ := m_chkE hf
        obtain ⟨⟨r9, S10⟩, ho, hf⟩ := m_cal2E hf
        obtain ⟨n_S10, k_S10⟩ := ke_X6_put n_o7 w_x3 ho
        replace k_S10 := ke_t k_o7 k_S10
        clear ho
        obtain ⟨n_9, k_9⟩ := ke_X9_putSigns_107  n_S10 w_x0 w_x3 hf
        exact ⟨n_9, ke_t k_S10 k_9⟩
    ·
      obtain ⟨q5, hf⟩ := m_chkE hf
      obtain ⟨o13, ho, hf⟩ := m_calE hf
      have r_o13 := ro_X0_kindAt ho
      have n_o13 : NQ o13.2 := by rw [r_o13]; exact n_o6
      have k_o13 : KE S o13.2 := by rw [r_o13]; exact k_o6
      clear ho
      obtain ⟨-, hf⟩ := m_chkE hf
      obtain ⟨o14, ho, hf⟩ := m_calE hf
      have r_o14 := ro_X11_letterOf ho
      have n_o14 : NQ o14.2 := by rw [r_o14]; exact n_o13
      have k_o14 : KE S o14.2 := by rw [r_o14]; exact k_o13
      clear ho
      obtain ⟨-, hf⟩ := m_chkE hf
      obtain ⟨q6, hf⟩ := m_chkE hf
      obtain ⟨⟨r16, S17⟩, ho, hf⟩ := m_cal2E hf
      obtain ⟨n_S17, k_S17⟩ := ke_X6_put n_o14 w_x3 ho
      replace k_S17 := ke_t k_o14 k_S17
      clear ho
      obtain ⟨q7, hf⟩ := m_chkE hf
      obtain ⟨⟨r21, S22⟩, ho, hf⟩ := m_cal2E hf
      obtain ⟨n_S22, k_S22⟩ := ke_X9_putApart n_S17 w_x0 w_x3 ho
      replace k_S22 := ke_t k_S17 k_S22
      clear ho
      obtain ⟨n_9, k_9⟩ := ke_X9_putSigns_107  n_S22 w_x0 w_x3 hf
      exact ⟨n_9, ke_t k_S22 k_9⟩
  ·
    rcases m_ifE hf with ⟨-, hf⟩ | ⟨-, hf⟩
    ·
      obtain ⟨n_9, k_9⟩ := ke_X9_putSigns_41  n_o4 w_x0 w_x3 w_x3 hf
      exact ⟨n_9, ke_t k_o4 k_9⟩
    ·
      obtain ⟨n_9, k_9⟩ := ke_X9_putSigns_41  n_o4 w_x0 w_x3 w_x3 hf
      exact ⟨n_9, ke_t k_o4 k_9⟩
theorem ke_X9_putSigns {o : Int32 × ZS} {x0 : Nat} {x1 : Nat} {x2 : Int32} {x3 : Nat} {S : ZS}  (hN : NQ S) (w_x0 : WS x0) (w_x3 : WS x3) (hf : d_X9_putSigns x0 x1 x2 x3 S = some o) : NQ o.2 ∧ KE S o.2 := by
  unfold d_X9_putSigns at hf
  obtain ⟨n_9, k_9⟩ := ke_X9_putSigns_0  hN w_x0 w_x3 hf
  exact ⟨n_9, ke_t ke_0 k_9⟩
theorem ke_X3_putMove_66s {o : Int32 × ZS} {self66 : Nat → Nat → Int32 → ZS → Option (Int32 × ZS)} {x2 : Nat} {x4 : Nat} {x5 : Int32} {S : ZS} (hself66 : ∀ (z0 : Nat) (z1 : Nat) (z2 : Int32) (S : ZS) (o : Int32 × ZS), WS z1 → NQ S → self66 z0 z1 z2 S = some o → NQ o.2 ∧ KE S o.2) (hN : NQ S) (w_x4 : WS x4) (hf : d_X3_putMove_66s self66 x2 x4 x5 S = some o) : NQ o.2 ∧ KE S o.2 := by
  unfold d_X3_putMove_66s at hf
  obtain ⟨q1, hf⟩ := m_chkE hf
  rcases m_ifE hf with ⟨-, hf⟩ | ⟨-, hf⟩
  ·
    obtain ⟨⟨r2, S3⟩, ho, hf⟩ := m_cal2E hf
    obtain ⟨n_S3, k_S3⟩ := ke_X3_putRemark hN w_x4 ho
    replace k_S3 := ke_t ke_0 k_S3
    clear ho
    cases hf
    exact ⟨n_S3, k_S3⟩
  ·
    obtain ⟨⟨r7, S8⟩, ho, hf⟩ := m_cal2E hf
    obtain ⟨n_S8, k_S8⟩ := ke_X3_putGap hN w_x4 ho
    replace k_S8 := ke_t ke_0 k_S8
    clear ho
    obtain ⟨q2, hf⟩ := m_chkE hf
    obtain ⟨⟨r12, S13⟩, ho, hf⟩ := m_cal2E hf
    obtain ⟨n_S13, k_S13⟩ := ke_X6_put n_S8 w_x4 ho
    replace k_S13 := ke_t k_S8 k_S13
    clear ho
    obtain ⟨q3, hf⟩ := m_chkE hf
    obtain ⟨o16, ho, hf⟩ := m_calE hf
    have r_o16 := ro_X4_markAt ho
    have n_o16 : NQ o16.2 := by rw [r_o16]; exact n_S13
    have k_o16 : KE S o16.2 := by rw [r_o16]; exact k_S13
    clear ho
    obtain ⟨-, hf⟩ := m_chkE hf
    obtain ⟨q4, hf⟩ := m_chkE hf
    obtain ⟨⟨r18, S19⟩, ho, hf⟩ := m_cal2E hf
    obtain ⟨n_S19, k_S19⟩ := ke_X6_putNumber n_o16 w_x4 ho
    replace k_S19 := ke_t k_o16 k_S19
    clear ho
    obtain ⟨v22, -, hf⟩ := m_bndE hf
    obtain ⟨n_9, k_9⟩ := hself66 _ _ _ _ _ w_x4 n_S19 hf
    exact ⟨n_9, ke_t k_S19 k_9⟩
theorem ke_X3_putMove_66   (n : Nat) : ∀ (y0 : Nat) (y1 : Nat) (y2 : Int32) (S : ZS) (o : Int32 × ZS), WS y1 → NQ S → d_X3_putMove_66  n y0 y1 y2 S = some o → NQ o.2 ∧ KE S o.2 := by
  induction n with
  | zero => intro y0 y1 y2 S o c1 hN hf; cases hf
  | succ n ih => intro y0 y1 y2 S o c1 hN hf; exact ke_X3_putMove_66s ih hN c1 hf
theorem ke_X3_putMove_44 {o : Int32 × ZS} {x0 : Nat} {x1 : Nat} {x2 : Nat} {x4 : Nat} {S : ZS}  (hN : NQ S) (w_x0 : WS x0) (w_x4 : WS x4) (hf : d_X3_putMove_44 x0 x1 x2 x4 S = some o) : NQ o.2 ∧ KE S o.2 := by
  unfold d_X3_putMove_44 at hf
  obtain ⟨⟨r2, S3⟩, ho, hf⟩ := m_cal2E hf
  obtain ⟨n_S3, k_S3⟩ := ke_X3_putGap hN w_x4 ho
  replace k_S3 := ke_t ke_0 k_S3
  clear ho
  obtain ⟨q1, hf⟩ := m_chkE hf
  obtain ⟨b6, p_b6, hf⟩ := m_calE hf
  obtain ⟨q2, hf⟩ := m_chkE hf
  obtain ⟨q3, hf⟩ := m_chkE hf
  obtain ⟨⟨r8, S9⟩, ho, hf⟩ := m_cal2E hf
  obtain ⟨n_S9, k_S9⟩ := ke_X9_putSigns n_S3 (nq_cl n_S3 q1 (by decide) (Or.inl w_x0) p_b6) w_x4 ho
  replace k_S9 := ke_t k_S3 k_S9
  clear ho
  obtain ⟨n_9, k_9⟩ := ke_X3_putMove_66  _ _ _ _ _ _ w_x4 n_S9 hf
  exact ⟨n_9, ke_t k_S9 k_9⟩
theorem ke_X3_putMove_41 {o : Int32 × ZS} {x0 : Nat} {x1 : Nat} {x2 : Nat} {x4 : Nat} {t0 : Nat} {t1 : Nat} {S : ZS}  (hN : NQ S) (w_x0 : WS x0) (w_x4 : WS x4) (w_t1 : WS t1) (hf : d_X3_putMove_41 x0 x1 x2 x4 t0 t1 S = some o) : NQ o.2 ∧ KE S o.2 := by
  unfold d_X3_putMove_41 at hf
  obtain ⟨q1, hf⟩ := m_chkE hf
  obtain ⟨⟨r2, S3⟩, ho, hf⟩ := m_cal2E hf
  obtain ⟨n_S3, k_S3⟩ := ke_X6_putText hN w_t1 ho
  replace k_S3 := ke_t ke_0 k_S3
  clear ho
  obtain ⟨n_9, k_9⟩ := ke_X3_putMove_44  n_S3 w_x0 w_x4 hf
  exact ⟨n_9, ke_t k_S3 k_9⟩
theorem ke_X3_putMove_11 {o : Int32 × ZS} {x0 : Nat} {x1 : Nat} {x2 : Nat} {x4 : Nat} {S : ZS}  (hN : NQ S) (w_x0 : WS x0) (w_x4 : WS x4) (hf : d_X3_putMove_11 x0 x1 x2 x4 S = some o) : NQ o.2 ∧ KE S o.2 := by
  unfold d_X3_putMove_11 at hf
  obtain ⟨⟨r2, S3⟩, ho, hf⟩ := m_cal2E hf
  obtain ⟨n_S3, k_S3⟩ := ke_X3_putGap hN w_x4 ho
  replace k_S3 := ke_t ke_0 k_S3
  clear ho
  obtain ⟨q1, hf⟩ := m_chkE hf
  obtain ⟨q2, hf⟩ := m_chkE hf
  obtain ⟨⟨r7, S8⟩, ho, hf⟩ := m_cal2E hf
  obtain ⟨n_S8, k_S8⟩ := ke_X6_putNumber n_S3 w_x4 ho
  replace k_S8 := ke_t k_S3 k_S8
  clear ho
  obtain ⟨q3, hf⟩ := m_chkE hf
  rcases m_ifE hf with ⟨-, hf⟩ | ⟨-, hf⟩
  ·
    obtain ⟨n_9, k_9⟩ := ke_X3_putMove_41  n_S8 w_x0 w_x4 w_x4 hf
    exact ⟨n_9, ke_t k_S8 k_9⟩
  ·
    obtain ⟨n_9, k_9⟩ := ke_X3_putMove_41  n_S8 w_x0 w_x4 w_x4 hf
    exact ⟨n_9, ke_t k_S8 k_9⟩
theorem ke_X3_putMove_0 {o : Int32 × ZS} {x0 : Nat} {x1 : Nat} {x2 : Nat} {x3 : Int32} {x4 : Nat} {S : ZS}  (hN : NQ S) (w_x0 : WS x0) (w_x4 : WS x4) (hf : d_X3_putMove_0 x0 x1 x2 x3 x4 S = some o) : NQ o.2 ∧ KE S o.2 := by
  unfold d_X3_putMove_0 at hf
  obtain ⟨q1, hf⟩ := m_chkE hf
  rcases m_ifE hf with ⟨-, hf⟩ | ⟨-, hf⟩
  ·
    obtain ⟨n_9, k_9⟩ := ke_X3_putMove_11  hN w_x0 w_x4 hf
    exact ⟨n_9, ke_t ke_0 k_9⟩
  ·
    rcases m_ifE hf with ⟨-, hf⟩ | ⟨-, hf⟩
    ·
      obtain ⟨n_9, k_9⟩ := ke_X3_putMove_44  hN w_x0 w_x4 hf
      exact ⟨n_9, ke_t ke_0 k_9⟩
    ·
      obtain ⟨n_9, k_9⟩ := ke_X3_putMove_11  hN w_x0 w_x4 hf
      exact ⟨n_9, ke_t ke_0 k_9⟩
theorem ke_X3_putMove {o : Int32 × ZS} {x0 : Nat} {x1 : Nat} {x2 : Nat} {x3 : Int32} {x4 : Nat} {S : ZS}  (hN : NQ S) (w_x0 : WS x0) (w_x4 : WS x4) (hf : d_X3_putMove x0 x1 x2 x3 x4 S = some o) : NQ o.2 ∧ KE S o.2 := by
  unfold d_X3_putMove at hf
  obtain ⟨n_9, k_9⟩ := ke_X3_putMove_0  hN w_x0 w_x4 hf
  exact ⟨n_9, ke_t ke_0 k_9⟩
theorem ke_X3_putLine_206 {o : Int32 × ZS} {rec : Nat → Nat → Int32 → Int32 → Nat → ZS → Option (Int32 × ZS)} {S : ZS} (hrec : ∀ (z0 : Nat) (z1 : Nat) (z2 : Int32) (z3 : Int32) (z4 : Nat) (S : ZS) (o : Int32 × ZS), WS z0 → WS z4 → NQ S → rec z0 z1 z2 z3 z4 S = some o → NQ o.2 ∧ KE S o.2) (hN : NQ S)  (hf : d_X3_putLine_206 rec S = some o) : NQ o.2 ∧ KE S o.2 := by
  unfold d_X3_putLine_206 at hf
  cases hf
  exact ⟨hN, ke_0⟩
theorem ke_X3_putLine_183 {o : Int32 × ZS} {rec : Nat → Nat → Int32 → Int32 → Nat → ZS → Option (Int32 × ZS)} {self24 : Nat → Nat → Int32 → Nat → Nat → Int32 → Int32 → Int32 → ZS → Option (Int32 × ZS)} {x0 : Nat} {x1 : Nat} {x3 : Int32} {x4 : Nat} {x5 : Nat} {x6 : Int32} {x8 : Int32} {x9 : Nat} {S : ZS} (hrec : ∀ (z0 : Nat) (z1 : Nat) (z2 : Int32) (z3 : Int32) (z4 : Nat) (S : ZS) (o : Int32 × ZS), WS z0 → WS z4 → NQ S → rec z0 z1 z2 z3 z4 S = some o → NQ o.2 ∧ KE S o.2) (hself24 : ∀ (z0 : Nat) (z1 : Nat) (z2 : Int32) (z3 : Nat) (z4 : Nat) (z5 : Int32) (z6 : Int32) (z7 : Int32) (S : ZS) (o : Int32 × ZS), WS z0 → WS z3 → WS z4 → NQ S → self24 z0 z1 z2 z3 z4 z5 z6 z7 S = some o → NQ o.2 ∧ KE S o.2) (hN : NQ S) (w_x0 : WS x0) (w_x4 : WS x4) (w_x5 : WS x5) (hf : d_X3_putLine_183 rec self24 x0 x1 x3 x4 x5 x6 x8 x9 S = some o) : NQ o.2 ∧ KE S o.2 := by
  unfold d_X3_putLine_183 at hf
  obtain ⟨q1, hf⟩ := m_chkE hf
  obtain ⟨q2, hf⟩ := m_chkE hf
  obtain ⟨o1, ho, hf⟩ := m_calE hf
  obtain ⟨n_o1, k_o1⟩ := ke_X0_play hN w_x5 ho
  replace k_o1 := ke_t ke_0 k_o1
  clear ho
  obtain ⟨-, hf⟩ := m_chkE hf
  obtain ⟨q3, hf⟩ := m_chkE hf
  obtain ⟨v2, -, hf⟩ := m_bndE hf
  obtain ⟨n_9, k_9⟩ := hself24 _ _ _ _ _ _ _ _ _ _ w_x0 w_x4 w_x5 n_o1 hf
  exact ⟨n_9, ke_t k_o1 k_9⟩
theorem ke_X3_putLine_99s {o : Int32 × ZS} {rec : Nat → Nat → Int32 → Int32 → Nat → ZS → Option (Int32 × ZS)} {self24 : Nat → Nat → Int32 → Nat → Nat → Int32 → Int32 → Int32 → ZS → Option (Int32 × ZS)} {self99 : Nat → Nat → Int32 → Nat → Nat → Int32 → Int32 → Nat → Int32 → Int32 → ZS → Option (Int32 × ZS)} {x0 : Nat} {x1 : Nat} {x3 : Int32} {x4 : Nat} {x5 : Nat} {x6 : Int32} {x8 : Int32} {x9 : Nat} {x10 : Int32} {x11 : Int32} {S : ZS} (hrec : ∀ (z0 : Nat) (z1 : Nat) (z2 : Int32) (z3 : Int32) (z4 : Nat) (S : ZS) (o : Int32 × ZS), WS z0 → WS z4 → NQ S → rec z0 z1 z2 z3 z4 S = some o → NQ o.2 ∧ KE S o.2) (hself24 : ∀ (z0 : Nat) (z1 : Nat) (z2 : Int32) (z3 : Nat) (z4 : Nat) (z5 : Int32) (z6 : Int32) (z7 : Int32) (S : ZS) (o : Int32 × ZS), WS z0 → WS z3 → WS z4 → NQ S → self24 z0 z1 z2 z3 z4 z5 z6 z7 S = some o → NQ o.2 ∧ KE S o.2) (hself99 : ∀ (z0 : Nat) (z1 : Nat) (z2 : Int32) (z3 : Nat) (z4 : Nat) (z5 : Int32) (z6 : Int32) (z7 : Nat) (z8 : Int32) (z9 : Int32) (S : ZS) (o : Int32 × ZS), WS z0 → WS z3 → WS z4 → NQ S → self99 z0 z1 z2 z3 z4 z5 z6 z7 z8 z9 S = some o → NQ o.2 ∧ KE S o.2) (hN : NQ S) (w_x0 : WS x0) (w_x4 : WS x4) (w_x5 : WS x5) (hf : d_X3_putLine_99s rec self24 self99 x0 x1 x3 x4 x5 x6 x8 x9 x10 x11 S = some o) : NQ o.2 ∧ KE S o.2 := by
  unfold d_X3_putLine_99s at hf
  rcases m_ifE hf with ⟨-, hf⟩ | ⟨-, hf⟩
  ·
    obtain ⟨n_9, k_9⟩ := ke_X3_putLine_183 hrec hself24 hN w_x0 w_x4 w_x5 hf
    exact ⟨n_9, ke_t ke_0 k_9⟩
  ·
    rcases m_ifE hf with ⟨-, hf⟩ | ⟨-, hf⟩
    ·
      obtain ⟨n_9, k_9⟩ := ke_X3_putLine_183 hrec hself24 hN w_x0 w_x4 w_x5 hf
      exact ⟨n_9, ke_t ke_0 k_9⟩
    ·
      rcases m_ifE hf with ⟨-, hf⟩ | ⟨-, hf⟩
      ·
        obtain ⟨n_9, k_9⟩ := ke_X3_putLine_183 hrec hself24 hN w_x0 w_x4 w_x5 hf
        exact ⟨n_9, ke_t ke_0 k_9⟩
      ·
        obtain ⟨q1, hf⟩ := m_chkE hf
        obtain ⟨b1, p_b1, hf⟩ := m_calE hf
        obtain ⟨v2, -, hf⟩ := m_bndE hf
        obtain ⟨q2, hf⟩ := m_chkE hf
        obtain ⟨q3, hf⟩ := m_chkE hf
        obtain ⟨b3, p_b3, hf⟩ := m_calE hf
        obtain ⟨q4, hf⟩ := m_chkE hf
        obtain ⟨o4, ho, hf⟩ := m_calE hf
        obtain ⟨n_o4, k_o4⟩ := ke_X0_copyFrom hN (nq_cb hN q2 (nq_cl hN q1 (by decide) (Or.inl w_x0) p_b1) (fun h => q3 (Or.inr h)) p_b3) ho
        replace k_o4 := ke_t ke_0 k_o4
        clear ho
        obtain ⟨-, hf⟩ := m_chkE hf
        obtain ⟨⟨r6, S7⟩, ho, hf⟩ := m_cal2E hf
        obtain ⟨n_S7, k_S7⟩ := ke_X3_putGap n_o4 w_x4 ho
        replace k_S7 := ke_t k_o4 k_S7
        clear ho
        obtain ⟨q5, hf⟩ := m_chkE hf
        obtain ⟨⟨r11, S12⟩, ho, hf⟩ := m_cal2E hf
        obtain ⟨n_S12, k_S12⟩ := ke_X6_put n_S7 w_x4 ho
        replace k_S12 := ke_t k_S7 k_S12
        clear ho
        obtain ⟨v15, -, hf⟩ := m_bndE hf
        obtain ⟨q6, hf⟩ := m_chkE hf
        obtain ⟨⟨r17, S18⟩, ho, hf⟩ := m_cal2E hf
        obtain ⟨n_S18, k_S18⟩ := hrec _ _ _ _ _ _ _ w_x0 w_x4 n_S12 ho
        replace k_S18 := ke_t k_S12 k_S18
        clear ho
        obtain ⟨q7, hf⟩ := m_chkE hf
        obtain ⟨⟨r22, S23⟩, ho, hf⟩ := m_cal2E hf
        obtain ⟨n_S23, k_S23⟩ := ke_X6_put n_S18 w_x4 ho
        replace k_S23 := ke_t k_S18 k_S23
        clear ho
        obtain ⟨q8, hf⟩ := m_chkE hf
        obtain ⟨o26, ho, hf⟩ := m_calE hf
        have r_o26 := ro_X1_at ho
        have n_o26 : NQ o26.2 := by rw [r_o26]; exact n_S23
        have k_o26 : KE S o26.2 := by rw [r_o26]; exact k_S23
        clear ho
        obtain ⟨-, hf⟩ := m_chkE hf
        obtain ⟨q9, hf⟩ := m_chkE hf
        obtain ⟨v27, -, hf⟩ := m_bndE hf
        obtain ⟨n_9, k_9⟩ := hself99 _ _ _ _ _ _ _ _ _ _ _ _ w_x0 w_x4 w_x5 n_o26 hf
        exact ⟨n_9, ke_t k_o26 k_9⟩
theorem ke_X3_putLine_99 {rec : Nat → Nat → Int32 → Int32 → Nat → ZS → Option (Int32 × ZS)} {self24 : Nat → Nat → Int32 → Nat → Nat → Int32 → Int32 → Int32 → ZS → Option (Int32 × ZS)} (hrec : ∀ (z0 : Nat) (z1 : Nat) (z2 : Int32) (z3 : Int32) (z4 : Nat) (S : ZS) (o : Int32 × ZS), WS z0 → WS z4 → NQ S → rec z0 z1 z2 z3 z4 S = some o → NQ o.2 ∧ KE S o.2) (hself24 : ∀ (z0 : Nat) (z1 : Nat) (z2 : Int32) (z3 : Nat) (z4 : Nat) (z5 : Int32) (z6 : Int32) (z7 : Int32) (S : ZS) (o : Int32 × ZS), WS z0 → WS z3 → WS z4 → NQ S → self24 z0 z1 z2 z3 z4 z5 z6 z7 S = some o → NQ o.2 ∧ KE S o.2) (n : Nat) : ∀ (y0 : Nat) (y1 : Nat) (y2 : Int32) (y3 : Nat) (y4 : Nat) (y5 : Int32) (y6 : Int32) (y7 : Nat) (y8 : Int32) (y9 : Int32) (S : ZS) (o : Int32 × ZS), WS y0 → WS y3 → WS y4 → NQ S → d_X3_putLine_99 rec self24 n y0 y1 y2 y3 y4 y5 y6 y7 y8 y9 S = some o → NQ o.2 ∧ KE S o.2 := by
  induction n with
  | zero => intro y0 y1 y2 y3 y4 y5 y6 y7 y8 y9 S o c0 c3 c4 hN hf; cases hf
  | succ n ih => intro y0 y1 y2 y3 y4 y5 y6 y7 y8 y9 S o c0 c3 c4 hN hf; exact ke_X3_putLine_99s hrec hself24 ih hN c0 c3 c4 hf
theorem ke_X3_putLine_94 {o : Int32 × ZS} {rec : Nat → Nat → Int32 → Int32 → Nat → ZS → Option (Int32 × ZS)} {self24 : Nat → Nat → Int32 → Nat → Nat → Int32 → Int32 → Int32 → ZS → Option (Int32 × ZS)} {x0 : Nat} {x1 : Nat} {x3 : Int32} {x4 : Nat} {x5 : Nat} {x6 : Int32} {x8 : Int32} {x9 : Nat} {t0 : Int32} {S : ZS} (hrec : ∀ (z0 : Nat) (z1 : Nat) (z2 : Int32) (z3 : Int32) (z4 : Nat) (S : ZS) (o : Int32 × ZS), WS z0 → WS z4 → NQ S → rec z0 z1 z2 z3 z4 S = some o → NQ o.2 ∧ KE S o.2) (hself24 : ∀ (z0 : Nat) (z1 : Nat) (z2 : Int32) (z3 : Nat) (z4 : Nat) (z5 : Int32) (z6 : Int32) (z7 : Int32) (S : ZS) (o : Int32 × ZS), WS z0 → WS z3 → WS z4 → NQ S → self24 z0 z1 z2 z3 z4 z5 z6 z7 S = some o → NQ o.2 ∧ KE S o.2) (hN : NQ S) (w_x0 : WS x0) (w_x4 : WS x4) (w_x5 : WS x5) (hf : d_X3_putLine_94 rec self24 x0 x1 x3 x4 x5 x6 x8 x9 t0 S = some o) : NQ o.2 ∧ KE S o.2 := by
  unfold d_X3_putLine_94 at hf
  obtain ⟨n_9, k_9⟩ := ke_X3_putLine_99 hrec hself24 _ _ _ _ _ _ _ _ _ _ _ _ _ w_x0 w_x4 w_x5 hN hf
  exact ⟨n_9, ke_t ke_0 k_9⟩
theorem ke_X3_putLine_74 {o : Int32 × ZS} {rec : Nat → Nat → Int32 → Int32 → Nat → ZS → Option (Int32 × ZS)} {self24 : Nat → Nat → Int32 → Nat → Nat → Int32 → Int32 → Int32 → ZS → Option (Int32 × ZS)} {x0 : Nat} {x1 : Nat} {x3 : Int32} {x4 : Nat} {x5 : Nat} {x7 : Int32} {x8 : Int32} {x9 : Nat} {t0 : Int32} {S : ZS} (hrec : ∀ (z0 : Nat) (z1 : Nat) (z2 : Int32) (z3 : Int32) (z4 : Nat) (S : ZS) (o : Int32 × ZS), WS z0 → WS z4 → NQ S → rec z0 z1 z2 z3 z4 S = some o → NQ o.2 ∧ KE S o.2) (hself24 : ∀ (z0 : Nat) (z1 : Nat) (z2 : Int32) (z3 : Nat) (z4 : Nat) (z5 : Int32) (z6 : Int32) (z7 : Int32) (S : ZS) (o : Int32 × ZS), WS z0 → WS z3 → WS z4 → NQ S → self24 z0 z1 z2 z3 z4 z5 z6 z7 S = some o → NQ o.2 ∧ KE S o.2) (hN : NQ S) (w_x0 : WS x0) (w_x4 : WS x4) (w_x5 : WS x5) (hf : d_X3_putLine_74 rec self24 x0 x1 x3 x4 x5 x7 x8 x9 t0 S = some o) : NQ o.2 ∧ KE S o.2 := by
  unfold d_X3_putLine_74 at hf
  obtain ⟨q1, hf⟩ := m_chkE hf
  obtain ⟨o1, ho, hf⟩ := m_calE hf
  have r_o1 := ro_X1_goesOn ho
  have n_o1 : NQ o1.2 := by rw [r_o1]; exact hN
  have k_o1 : KE S o1.2 := by rw [r_o1]; exact ke_0
  clear ho
  obtain ⟨-, hf⟩ := m_chkE hf
  rcases m_ifE hf with ⟨-, hf⟩ | ⟨-, hf⟩
  ·
    obtain ⟨n_9, k_9⟩ := ke_X3_putLine_94 hrec hself24 n_o1 w_x0 w_x4 w_x5 hf
    exact ⟨n_9, ke_t k_o1 k_9⟩
  ·
    obtain ⟨q2, hf⟩ := m_chkE hf
    obtain ⟨n_9, k_9⟩ := ke_X3_putLine_94 hrec hself24 n_o1 w_x0 w_x4 w_x5 hf
    exact ⟨n_9, ke_t k_o1 k_9⟩
theorem ke_X3_putLine_24s {o : Int32 × ZS} {rec : Nat → Nat → Int32 → Int32 → Nat → ZS → Option (Int32 × ZS)} {self24 : Nat → Nat → Int32 → Nat → Nat → Int32 → Int32 → Int32 → ZS → Option (Int32 × ZS)} {x0 : Nat} {x1 : Nat} {x3 : Int32} {x4 : Nat} {x5 : Nat} {x6 : Int32} {x7 : Int32} {x8 : Int32} {S : ZS} (hrec : ∀ (z0 : Nat) (z1 : Nat) (z2 : Int32) (z3 : Int32) (z4 : Nat) (S : ZS) (o : Int32 × ZS), WS z0 → WS z4 → NQ S → rec z0 z1 z2 z3 z4 S = some o → NQ o.2 ∧ KE S o.2) (hself24 : ∀ (z0 : Nat) (z1 : Nat) (z2 : Int32) (z3 : Nat) (z4 : Nat) (z5 : Int32) (z6 : Int32) (z7 : Int32) (S : ZS) (o : Int32 × ZS), WS z0 → WS z3 → WS z4 → NQ S → self24 z0 z1 z2 z3 z4 z5 z6 z7 S = some o → NQ o.2 ∧ KE S o.2) (hN : NQ S) (w_x0 : WS x0) (w_x4 : WS x4) (w_x5 : WS x5) (hf : d_X3_putLine_24s rec self24 x0 x1 x3 x4 x5 x6 x7 x8 S = some o) : NQ o.2 ∧ KE S o.2 := by
  unfold d_X3_putLine_24s at hf
  rcases m_ifE hf with ⟨-, hf⟩ | ⟨-, hf⟩
  ·
    obtain ⟨n_9, k_9⟩ := ke_X3_putLine_206 hrec hN  hf
    exact ⟨n_9, ke_t ke_0 k_9⟩
  ·
    rcases m_ifE hf with ⟨-, hf⟩ | ⟨-, hf⟩
    ·
      obtain ⟨n_9, k_9⟩ := ke_X3_putLine_206 hrec hN  hf
      exact ⟨n_9, ke_t ke_0 k_9⟩
    ·
      obtain ⟨q1, hf⟩ := m_chkE hf
      obtain ⟨o1, ho, hf⟩ := m_calE hf
      have r_o1 := ro_X1_at ho
      have n_o1 : NQ o1.2 := by rw [r_o1]; exact hN
      have k_o1 : KE S o1.2 := by rw [r_o1]; exact ke_0
      clear ho
      obtain ⟨-, hf⟩ := m_chkE hf
      obtain ⟨q2, hf⟩ := m_chkE hf
      obtain ⟨⟨r3, S4⟩, ho, hf⟩ := m_cal2E hf
      obtain ⟨n_S4, k_S4⟩ := ke_X3_putMove n_o1 w_x0 w_x4 ho
      replace k_S4 := ke_t k_o1 k_S4
      clear ho
      obtain ⟨q3, hf⟩ := m_chkE hf
      obtain ⟨b7, p_b7, hf⟩ := m_calE hf
      obtain ⟨q4, hf⟩ := m_chkE hf
      obtain ⟨o8, ho, hf⟩ := m_calE hf
      have r_o8 := ro_X6_size ho
      have n_o8 : NQ o8.2 := by rw [r_o8]; exact n_S4
      have k_o8 : KE S o8.2 := by rw [r_o8]; exact k_S4
      clear ho
      obtain ⟨-, hf⟩ := m_chkE hf
      rcases m_ifE hf with ⟨-, hf⟩ | ⟨-, hf⟩
      ·
        obtain ⟨n_9, k_9⟩ := ke_X3_putLine_74 hrec hself24 n_o8 w_x0 w_x4 w_x5 hf
        exact ⟨n_9, ke_t k_o8 k_9⟩
      ·
        obtain ⟨n_9, k_9⟩ := ke_X3_putLine_74 hrec hself24 n_o8 w_x0 w_x4 w_x5 hf
        exact ⟨n_9, ke_t k_o8 k_9⟩
theorem ke_X3_putLine_24 {rec : Nat → Nat → Int32 → Int32 → Nat → ZS → Option (Int32 × ZS)} (hrec : ∀ (z0 : Nat) (z1 : Nat) (z2 : Int32) (z3 : Int32) (z4 : Nat) (S : ZS) (o : Int32 × ZS), WS z0 → WS z4 → NQ S → rec z0 z1 z2 z3 z4 S = some o → NQ o.2 ∧ KE S o.2) (n : Nat) : ∀ (y0 : Nat) (y1 : Nat) (y2 : Int32) (y3 : Nat) (y4 : Nat) (y5 : Int32) (y6 : Int32) (y7 : Int32) (S : ZS) (o : Int32 × ZS), WS y0 → WS y3 → WS y4 → NQ S → d_X3_putLine_24 rec n y0 y1 y2 y3 y4 y5 y6 y7 S = some o → NQ o.2 ∧ KE S o.2 := by
  induction n with
  | zero => intro y0 y1 y2 y3 y4 y5 y6 y7 S o c0 c3 c4 hN hf; cases hf
  | succ n ih => intro y0 y1 y2 y3 y4 y5 y6 y7 S o c0 c3 c4 hN hf; exact ke_X3_putLine_24s hrec ih hN c0 c3 c4 hf
theorem ke_X3_putLine_0 {o : Int32 × ZS} {rec : Nat → Nat → Int32 → Int32 → Nat → ZS → Option (Int32 × ZS)} {x0 : Nat} {x1 : Nat} {x2 : Int32} {x3 : Int32} {x4 : Nat} {S : ZS} (hrec : ∀ (z0 : Nat) (z1 : Nat) (z2 : Int32) (z3 : Int32) (z4 : Nat) (S : ZS) (o : Int32 × ZS), WS z0 → WS z4 → NQ S → rec z0 z1 z2 z3 z4 S = some o → NQ o.2 ∧ KE S o.2) (hN : NQ S) (w_x0 : WS x0) (w_x4 : WS x4) (hf : d_X3_putLine_0 rec x0 x1 x2 x3 x4 S = some o) : NQ o.2 ∧ KE S o.2 := by
  unfold d_X3_putLine_0 at hf
  rcases m_ifE hf with ⟨-, hf⟩ | ⟨-, hf⟩
  ·
    obtain ⟨q1, hf⟩ := m_chkE hf
    obtain ⟨b1, p_b1, hf⟩ := m_calE hf
    obtain ⟨q2, hf⟩ := m_chkE hf
    obtain ⟨q3, hf⟩ := m_chkE hf
    obtain ⟨b2, p_b2, hf⟩ := m_calE hf
    obtain ⟨n_9, k_9⟩ := ke_X3_putLine_24 hrec _ _ _ _ _ _ _ _ _ _ _ w_x0 w_x4 (nq_cb hN q2 (nq_cl hN q1 (by decide) (Or.inl w_x0) p_b1) (fun h => q3 (Or.inr h)) p_b2) hN hf
    exact ⟨n_9, ke_t ke_0 k_9⟩
  ·
    cases hf
    exact ⟨hN, ke_0⟩
theorem ke_rX3_putLine   (n : Nat) : ∀ (y0 : Nat) (y1 : Nat) (y2 : Int32) (y3 : Int32) (y4 : Nat) (S : ZS) (o : Int32 × ZS), WS y0 → WS y4 → NQ S → dr_X3_putLine  n y0 y1 y2 y3 y4 S = some o → NQ o.2 ∧ KE S o.2 := by
  induction n with
  | zero => intro y0 y1 y2 y3 y4 S o c0 c4 hN hf; cases hf
  | succ n ih => intro y0 y1 y2 y3 y4 S o c0 c4 hN hf; exact ke_X3_putLine_0 ih hN c0 c4 hf
theorem ke_X3_putLine {o : Int32 × ZS} {x0 : Nat} {x1 : Nat} {x2 : Int32} {x3 : Int32} {x4 : Nat} {S : ZS}  (hN : NQ S) (w_x0 : WS x0) (w_x4 : WS x4) (hf : d_X3_putLine x0 x1 x2 x3 x4 S = some o) : NQ o.2 ∧ KE S o.2 := by
  unfold d_X3_putLine at hf
  obtain ⟨n_9, k_9⟩ := ke_rX3_putLine  _ _ _ _ _ _ _ _ w_x0 w_x4 hN hf
  exact ⟨n_9, ke_t ke_0 k_9⟩
theorem ke_X11_find_0 {o : Int32 × ZS} {x0 : Nat} {S : ZS}  (hN : NQ S) (u_x0 : x0 = 1) (hf : d_X11_find_0 x0 S = some o) : NQ o.2 ∧ KE S o.2 := by
  unfold d_X11_find_0 at hf
  obtain ⟨q1, hf⟩ := m_chkE hf
  obtain ⟨b1, p_b1, hf⟩ := m_calE hf
  obtain ⟨q2, hf⟩ := m_chkE hf
  obtain ⟨b2, p_b2, hf⟩ := m_calE hf
  obtain ⟨q3, hf⟩ := m_chkE hf
  obtain ⟨b3, p_b3, hf⟩ := m_calE hf
  obtain ⟨q4, hf⟩ := m_chkE hf
  obtain ⟨b4, p_b4, hf⟩ := m_calE hf
  obtain ⟨q5, hf⟩ := m_chkE hf
  obtain ⟨o5, ho, hf⟩ := m_calE hf
  have r_o5 := ro_X6_size ho
  have n_o5 : NQ o5.2 := by rw [r_o5]; exact hN
  have k_o5 : KE S o5.2 := by rw [r_o5]; exact ke_0
  clear ho
  obtain ⟨-, hf⟩ := m_chkE hf
  obtain ⟨q6, hf⟩ := m_chkE hf
  obtain ⟨⟨r7, S8⟩, ho, hf⟩ := m_cal2E hf
  obtain ⟨n_S8, k_S8⟩ := ke_X8_matched n_o5 (nq_cl hN q4 (by decide) (Or.inr u_x0) p_b1) ho
  replace k_S8 := ke_t k_o5 k_S8
  clear ho
  cases hf
  exact ⟨n_S8, k_S8⟩
theorem ke_X11_find {o : Int32 × ZS} {x0 : Nat} {S : ZS}  (hN : NQ S) (u_x0 : x0 = 1) (hf : d_X11_find x0 S = some o) : NQ o.2 ∧ KE S o.2 := by
  unfold d_X11_find at hf
  obtain ⟨n_9, k_9⟩ := ke_X11_find_0  hN u_x0 hf
  exact ⟨n_9, ke_t ke_0 k_9⟩
theorem ke_X11_write_0 {o : Int32 × ZS} {x0 : Nat} {S : ZS}  (hN : NQ S) (u_x0 : x0 = 1) (hf : d_X11_write_0 x0 S = some o) : NQ o.2 ∧ KE S o.2 := by
  unfold d_X11_write_0 at hf
  obtain ⟨q1, hf⟩ := m_chkE hf
  obtain ⟨b1, p_b1, hf⟩ := m_calE hf
  obtain ⟨q2, hf⟩ := m_chkE hf
  obtain ⟨o2, ho, hf⟩ := m_calE hf
  obtain ⟨n_o2, k_o2⟩ := ke_X6_keep hN (nq_cl hN q1 (by decide) (Or.inr u_x0) p_b1) ho
  replace k_o2 := ke_t ke_0 k_o2
  clear ho
  obtain ⟨-, hf⟩ := m_chkE hf
  obtain ⟨q3, hf⟩ := m_chkE hf
  obtain ⟨b3, p_b3, hf⟩ := m_calE hf
  obtain ⟨q4, hf⟩ := m_chkE hf
  obtain ⟨b4, p_b4, hf⟩ := m_calE hf
  obtain ⟨q5, hf⟩ := m_chkE hf
  obtain ⟨b5, p_b5, hf⟩ := m_calE hf
  obtain ⟨q6, hf⟩ := m_chkE hf
  obtain ⟨⟨r7, S8⟩, ho, hf⟩ := m_cal2E hf
  obtain ⟨n_S8, k_S8⟩ := ke_X3_putHead n_o2 (nq_cl n_o2 q5 (by decide) (Or.inr u_x0) p_b3) (nq_cl n_o2 q5 (by decide) (Or.inr u_x0) p_b5) ho
  replace k_S8 := ke_t k_o2 k_S8
  clear ho
  obtain ⟨q7, hf⟩ := m_chkE hf
  obtain ⟨b11, p_b11, hf⟩ := m_calE hf
  obtain ⟨q8, hf⟩ := m_chkE hf
  obtain ⟨b12, p_b12, hf⟩ := m_calE hf
  obtain ⟨q9, hf⟩ := m_chkE hf
  obtain ⟨b13, p_b13, hf⟩ := m_calE hf
  obtain ⟨q10, hf⟩ := m_chkE hf
  obtain ⟨o14, ho, hf⟩ := m_calE hf
  have r_o14 := ro_X1_at ho
  have n_o14 : NQ o14.2 := by rw [r_o14]; exact n_S8
  have k_o14 : KE S o14.2 := by rw [r_o14]; exact k_S8
  clear ho
  obtain ⟨-, hf⟩ := m_chkE hf
  obtain ⟨q11, hf⟩ := m_chkE hf
  obtain ⟨q12, hf⟩ := m_chkE hf
  obtain ⟨b15, p_b15, hf⟩ := m_calE hf
  obtain ⟨q13, hf⟩ := m_chkE hf
  obtain ⟨⟨r17, S18⟩, ho, hf⟩ := m_cal2E hf
  obtain ⟨n_S18, k_S18⟩ := ke_X3_putLine n_o14 (nq_cl n_S8 q9 (by decide) (Or.inr u_x0) p_b11) (nq_cl n_o14 q12 (by decide) (Or.inr u_x0) p_b15) ho
  replace k_S18 := ke_t k_o14 k_S18
  clear ho
  obtain ⟨q14, hf⟩ := m_chkE hf
  obtain ⟨b21, p_b21, hf⟩ := m_calE hf
  obtain ⟨q15, hf⟩ := m_chkE hf
  obtain ⟨b22, p_b22, hf⟩ := m_calE hf
  obtain ⟨q16, hf⟩ := m_chkE hf
  obtain ⟨b23, p_b23, hf⟩ := m_calE hf
  obtain ⟨q17, hf⟩ := m_chkE hf
  obtain ⟨⟨r25, S26⟩, ho, hf⟩ := m_cal2E hf
  obtain ⟨n_S26, k_S26⟩ := ke_X3_putEnd n_S18 (nq_cl n_S18 q16 (by decide) (Or.inr u_x0) p_b23) ho
  replace k_S26 := ke_t k_S18 k_S26
  clear ho
  obtain ⟨q18, hf⟩ := m_chkE hf
  obtain ⟨b29, p_b29, hf⟩ := m_calE hf
  obtain ⟨q19, hf⟩ := m_chkE hf
  obtain ⟨o30, ho, hf⟩ := m_calE hf
  have r_o30 := ro_X6_size ho
  have n_o30 : NQ o30.2 := by rw [r_o30]; exact n_S26
  have k_o30 : KE S o30.2 := by rw [r_o30]; exact k_S26
  clear ho
  obtain ⟨-, hf⟩ := m_chkE hf
  cases hf
  exact ⟨n_o30, k_o30⟩
theorem ke_X11_write {o : Int32 × ZS} {x0 : Nat} {S : ZS}  (hN : NQ S) (u_x0 : x0 = 1) (hf : d_X11_write x0 S = some o) : NQ o.2 ∧ KE S o.2 := by
  unfold d_X11_write at hf
  obtain ⟨n_9, k_9⟩ := ke_X11_write_0  hN u_x0 hf
  exact ⟨n_9, ke_t ke_0 k_9⟩
theorem ke_X11_signs_0 {o : (Nat × Int32) × ZS} {x0 : Nat} {x1 : Int32} {S : ZS}  (hN : NQ S) (u_x0 : x0 = 1) (hf : d_X11_signs_0 x0 x1 S = some o) : NQ o.2 ∧ KE S o.2 := by
  unfold d_X11_signs_0 at hf
  obtain ⟨q1, hf⟩ := m_chkE hf
  obtain ⟨b1, p_b1, hf⟩ := m_calE hf
  obtain ⟨q2, hf⟩ := m_chkE hf
  obtain ⟨b2, p_b2, hf⟩ := m_calE hf
  obtain ⟨q3, hf⟩ := m_chkE hf
  obtain ⟨o3, ho, hf⟩ := m_calE hf
  obtain ⟨n_o3, k_o3⟩ := ke_X7_isLegal hN (nq_cl hN q2 (by decide) (Or.inr u_x0) p_b1) ho
  replace k_o3 := ke_t ke_0 k_o3
  clear ho
  obtain ⟨-, hf⟩ := m_chkE hf
  rcases m_ifE hf with ⟨-, hf⟩ | ⟨-, hf⟩
  ·
    cases hf
    exact ⟨nq_q n_o3, ke_q k_o3⟩
  ·
    obtain ⟨q4, hf⟩ := m_chkE hf
    obtain ⟨b4, p_b4, hf⟩ := m_calE hf
    obtain ⟨q5, hf⟩ := m_chkE hf
    obtain ⟨o5, ho, hf⟩ := m_calE hf
    obtain ⟨n_o5, k_o5⟩ := ke_X6_keep n_o3 (nq_cl n_o3 q4 (by decide) (Or.inr u_x0) p_b4) ho
    replace k_o5 := ke_t k_o3 k_o5
    clear ho
    obtain ⟨-, hf⟩ := m_chkE hf
    obtain ⟨q6, hf⟩ := m_chkE hf
    obtain ⟨b6, p_b6, hf⟩ := m_calE hf
    obtain ⟨q7, hf⟩ := m_chkE hf
    obtain ⟨b7, p_b7, hf⟩ := m_calE hf
    obtain ⟨q8, hf⟩ := m_chkE hf
    obtain ⟨b8, p_b8, hf⟩ := m_calE hf
    obtain ⟨q9, hf⟩ := m_chkE hf
    obtain ⟨⟨r10, S11⟩, ho, hf⟩ := m_cal2E hf
    obtain ⟨n_S11, k_S11⟩ := ke_X9_putSigns n_o5 (nq_cl n_o5 q8 (by decide) (Or.inr u_x0) p_b6) (nq_cl n_o5 q8 (by decide) (Or.inr u_x0) p_b8) ho
    replace k_S11 := ke_t k_o5 k_S11
    clear ho
    obtain ⟨q10, hf⟩ := m_chkE hf
    obtain ⟨b14, p_b14, hf⟩ := m_calE hf
    obtain ⟨q11, hf⟩ := m_chkE hf
    obtain ⟨o15, ho, hf⟩ := m_calE hf
    have r_o15 := ro_X6_size ho
    have n_o15 : NQ o15.2 := by rw [r_o15]; exact n_S11
    have k_o15 : KE S o15.2 := by rw [r_o15]; exact k_S11
    clear ho
    obtain ⟨-, hf⟩ := m_chkE hf
    cases hf
    exact ⟨n_o15, k_o15⟩
theorem ke_X11_signs {o : (Nat × Int32) × ZS} {x0 : Nat} {x1 : Int32} {S : ZS}  (hN : NQ S) (u_x0 : x0 = 1) (hf : d_X11_signs x0 x1 S = some o) : NQ o.2 ∧ KE S o.2 := by
  unfold d_X11_signs at hf
  obtain ⟨n_9, k_9⟩ := ke_X11_signs_0  hN u_x0 hf
  exact ⟨n_9, ke_t ke_0 k_9⟩
theorem ke_X11_node_0 {o : (Nat × Int32) × ZS} {x0 : Nat} {x1 : Int32} {x2 : Int32} {S : ZS}  (hN : NQ S)  (hf : d_X11_node_0 x0 x1 x2 S = some o) : NQ o.2 ∧ KE S o.2 := by
  unfold d_X11_node_0 at hf
  obtain ⟨q1, hf⟩ := m_chkE hf
  obtain ⟨b1, p_b1, hf⟩ := m_calE hf
  obtain ⟨q2, hf⟩ := m_chkE hf
  obtain ⟨o2, ho, hf⟩ := m_calE hf
  have r_o2 := ro_X1_has ho
  have n_o2 : NQ o2.2 := by rw [r_o2]; exact hN
  have k_o2 : KE S o2.2 := by rw [r_o2]; exact ke_0
  clear ho
  obtain ⟨-, hf⟩ := m_chkE hf
  rcases m_ifE hf with ⟨-, hf⟩ | ⟨-, hf⟩
  ·
    cases hf
    exact ⟨nq_q n_o2, ke_q k_o2⟩
  ·
    obtain ⟨q3, hf⟩ := m_chkE hf
    obtain ⟨b3, p_b3, hf⟩ := m_calE hf
    obtain ⟨q4, hf⟩ := m_chkE hf
    obtain ⟨o4, ho, hf⟩ := m_calE hf
    have r_o4 := ro_X1_at ho
    have n_o4 : NQ o4.2 := by rw [r_o4]; exact n_o2
    have k_o4 : KE S o4.2 := by rw [r_o4]; exact k_o2
    clear ho
    obtain ⟨-, hf⟩ := m_chkE hf
    rcases m_ifE hf with ⟨-, hf⟩ | ⟨-, hf⟩
    ·
      obtain ⟨q5, hf⟩ := m_chkE hf
      cases hf
      exact ⟨n_o4, k_o4⟩
    ·
      rcases m_ifE hf with ⟨-, hf⟩ | ⟨-, hf⟩
      ·
        obtain ⟨q6, hf⟩ := m_chkE hf
        cases hf
        exact ⟨n_o4, k_o4⟩
      ·
        rcases m_ifE hf with ⟨-, hf⟩ | ⟨-, hf⟩
        ·
          obtain ⟨q7, hf⟩ := m_chkE hf
          cases hf
          exact ⟨n_o4, k_o4⟩
        ·
          rcases m_ifE hf with ⟨-, hf⟩ | ⟨-, hf⟩
          ·
            obtain ⟨q8, hf⟩ := m_chkE hf
            cases hf
            exact ⟨n_o4, k_o4⟩
          ·
            rcases m_ifE hf with ⟨-, hf⟩ | ⟨-, hf⟩
            ·
              obtain ⟨q9, hf⟩ := m_chkE hf
              cases hf
              exact ⟨n_o4, k_o4⟩
            ·
              rcases m_ifE hf with ⟨-, hf⟩ | ⟨-, hf⟩
              ·
                obtain ⟨q10, hf⟩ := m_chkE hf
                obtain ⟨b5, p_b5, hf⟩ := m_calE hf
                obtain ⟨q11, hf⟩ := m_chkE hf
                obtain ⟨o6, ho, hf⟩ := m_calE hf
                have r_o6 := ro_X6_size ho
                have n_o6 : NQ o6.2 := by rw [r_o6]; exact n_o4
                have k_o6 : KE S o6.2 := by rw [r_o6]; exact k_o4
                clear ho
                obtain ⟨-, hf⟩ := m_chkE hf
                cases hf
                exact ⟨n_o6, k_o6⟩
              ·
                cases hf
                exact ⟨nq_q n_o4, ke_q k_o4⟩
theorem ke_X11_node {o : (Nat × Int32) × ZS} {x0 : Nat} {x1 : Int32} {x2 : Int32} {S : ZS}  (hN : NQ S)  (hf : d_X11_node x0 x1 x2 S = some o) : NQ o.2 ∧ KE S o.2 := by
  unfold d_X11_node at hf
  obtain ⟨n_9, k_9⟩ := ke_X11_node_0  hN  hf
  exact ⟨n_9, ke_t ke_0 k_9⟩
theorem ke_X11_mark_30 {o : (Nat × Int32) × ZS} {S : ZS}  (hN : NQ S)  (hf : d_X11_mark_30 S = some o) : NQ o.2 ∧ KE S o.2 := by
  unfold d_X11_mark_30 at hf
  cases hf
  exact ⟨nq_q hN, ke_q ke_0⟩
theorem ke_X11_mark_0 {o : (Nat × Int32) × ZS} {x0 : Nat} {x1 : Int32} {x2 : Int32} {S : ZS}  (hN : NQ S)  (hf : d_X11_mark_0 x0 x1 x2 S = some o) : NQ o.2 ∧ KE S o.2 := by
  unfold d_X11_mark_0 at hf
  obtain ⟨q1, hf⟩ := m_chkE hf
  obtain ⟨b1, p_b1, hf⟩ := m_calE hf
  obtain ⟨q2, hf⟩ := m_chkE hf
  obtain ⟨o2, ho, hf⟩ := m_calE hf
  have r_o2 := ro_X1_has ho
  have n_o2 : NQ o2.2 := by rw [r_o2]; exact hN
  have k_o2 : KE S o2.2 := by rw [r_o2]; exact ke_0
  clear ho
  obtain ⟨-, hf⟩ := m_chkE hf
  rcases m_ifE hf with ⟨-, hf⟩ | ⟨-, hf⟩
  ·
    obtain ⟨n_9, k_9⟩ := ke_X11_mark_30  n_o2  hf
    exact ⟨n_9, ke_t k_o2 k_9⟩
  ·
    rcases m_ifE hf with ⟨-, hf⟩ | ⟨-, hf⟩
    ·
      obtain ⟨n_9, k_9⟩ := ke_X11_mark_30  n_o2  hf
      exact ⟨n_9, ke_t k_o2 k_9⟩
    ·
      obtain ⟨q3, hf⟩ := m_chkE hf
      obtain ⟨b3, p_b3, hf⟩ := m_calE hf
      obtain ⟨q4, hf⟩ := m_chkE hf
      obtain ⟨o4, ho, hf⟩ := m_calE hf
      have r_o4 := ro_X1_at ho
      have n_o4 : NQ o4.2 := by rw [r_o4]; exact n_o2
      have k_o4 : KE S o4.2 := by rw [r_o4]; exact k_o2
      clear ho
      obtain ⟨-, hf⟩ := m_chkE hf
      obtain ⟨q5, hf⟩ := m_chkE hf
      rcases m_ifE hf with ⟨-, hf⟩ | ⟨-, hf⟩
      ·
        obtain ⟨q6, hf⟩ := m_chkE hf
        obtain ⟨b5, p_b5, hf⟩ := m_calE hf
        obtain ⟨q7, hf⟩ := m_chkE hf
        obtain ⟨o6, ho, hf⟩ := m_calE hf
        have r_o6 := ro_X1_at ho
        have n_o6 : NQ o6.2 := by rw [r_o6]; exact n_o4
        have k_o6 : KE S o6.2 := by rw [r_o6]; exact k_o4
        clear ho
        obtain ⟨-, hf⟩ := m_chkE hf
        obtain ⟨q8, hf⟩ := m_chkE hf
        obtain ⟨o7, ho, hf⟩ := m_calE hf
        have r_o7 := ro_X4_markAt ho
        have n_o7 : NQ o7.2 := by rw [r_o7]; exact n_o6
        have k_o7 : KE S o7.2 := by rw [r_o7]; exact k_o6
        clear ho
        obtain ⟨-, hf⟩ := m_chkE hf
        cases hf
        exact ⟨n_o7, k_o7⟩
      ·
        obtain ⟨n_9, k_9⟩ := ke_X11_mark_30  n_o4  hf
        exact ⟨n_9, ke_t k_o4 k_9⟩
theorem ke_X11_mark {o : (Nat × Int32) × ZS} {x0 : Nat} {x1 : Int32} {x2 : Int32} {S : ZS}  (hN : NQ S)  (hf : d_X11_mark x0 x1 x2 S = some o) : NQ o.2 ∧ KE S o.2 := by
  unfold d_X11_mark at hf
  obtain ⟨n_9, k_9⟩ := ke_X11_mark_0  hN  hf
  exact ⟨n_9, ke_t ke_0 k_9⟩
theorem ke_X11_remark_33 {o : (Nat × Int32) × ZS} {S : ZS}  (hN : NQ S)  (hf : d_X11_remark_33 S = some o) : NQ o.2 ∧ KE S o.2 := by
  unfold d_X11_remark_33 at hf
  cases hf
  exact ⟨nq_q hN, ke_q ke_0⟩
theorem ke_X11_remark_0 {o : (Nat × Int32) × ZS} {x0 : Nat} {x1 : Int32} {x2 : Int32} {S : ZS}  (hN : NQ S)  (hf : d_X11_remark_0 x0 x1 x2 S = some o) : NQ o.2 ∧ KE S o.2 := by
  unfold d_X11_remark_0 at hf
  obtain ⟨q1, hf⟩ := m_chkE hf
  obtain ⟨b1, p_b1, hf⟩ := m_calE hf
  obtain ⟨q2, hf⟩ := m_chkE hf
  obtain ⟨o2, ho, hf⟩ := m_calE hf
  have r_o2 := ro_X1_has ho
  have n_o2 : NQ o2.2 := by rw [r_o2]; exact hN
  have k_o2 : KE S o2.2 := by rw [r_o2]; exact ke_0
  clear ho
  obtain ⟨-, hf⟩ := m_chkE hf
  rcases m_ifE hf with ⟨-, hf⟩ | ⟨-, hf⟩
  ·
    obtain ⟨n_9, k_9⟩ := ke_X11_remark_33  n_o2  hf
    exact ⟨n_9, ke_t k_o2 k_9⟩
  ·
    rcases m_ifE hf with ⟨-, hf⟩ | ⟨-, hf⟩
    ·
      obtain ⟨n_9, k_9⟩ := ke_X11_remark_33  n_o2  hf
      exact ⟨n_9, ke_t k_o2 k_9⟩
    ·
      obtain ⟨q3, hf⟩ := m_chkE hf
      obtain ⟨b3, p_b3, hf⟩ := m_calE hf
      obtain ⟨q4, hf⟩ := m_chkE hf
      obtain ⟨o4, ho, hf⟩ := m_calE hf
      have r_o4 := ro_X1_at ho
      have n_o4 : NQ o4.2 := by rw [r_o4]; exact n_o2
      have k_o4 : KE S o4.2 := by rw [r_o4]; exact k_o2
      clear ho
      obtain ⟨-, hf⟩ := m_chkE hf
      obtain ⟨q5, hf⟩ := m_chkE hf
      obtain ⟨b5, p_b5, hf⟩ := m_calE hf
      obtain ⟨q6, hf⟩ := m_chkE hf
      obtain ⟨o6, ho, hf⟩ := m_calE hf
      have r_o6 := ro_X6_size ho
      have n_o6 : NQ o6.2 := by rw [r_o6]; exact n_o4
      have k_o6 : KE S o6.2 := by rw [r_o6]; exact k_o4
      clear ho
      obtain ⟨-, hf⟩ := m_chkE hf
      rcases m_ifE hf with ⟨-, hf⟩ | ⟨-, hf⟩
      ·
        obtain ⟨q7, hf⟩ := m_chkE hf
        obtain ⟨b7, p_b7, hf⟩ := m_calE hf
        obtain ⟨q8, hf⟩ := m_chkE hf
        obtain ⟨o8, ho, hf⟩ := m_calE hf
        have r_o8 := ro_X1_at ho
        have n_o8 : NQ o8.2 := by rw [r_o8]; exact n_o6
        have k_o8 : KE S o8.2 := by rw [r_o8]; exact k_o6
        clear ho
        obtain ⟨-, hf⟩ := m_chkE hf
        obtain ⟨q9, hf⟩ := m_chkE hf
        obtain ⟨b9, p_b9, hf⟩ := m_calE hf
        obtain ⟨q10, hf⟩ := m_chkE hf
        obtain ⟨o10, ho, hf⟩ := m_calE hf
        have r_o10 := ro_X6_at ho
        have n_o10 : NQ o10.2 := by rw [r_o10]; exact n_o8
        have k_o10 : KE S o10.2 := by rw [r_o10]; exact k_o8
        clear ho
        obtain ⟨-, hf⟩ := m_chkE hf
        cases hf
        exact ⟨n_o10, k_o10⟩
      ·
        obtain ⟨n_9, k_9⟩ := ke_X11_remark_33  n_o6  hf
        exact ⟨n_9, ke_t k_o6 k_9⟩
theorem ke_X11_remark {o : (Nat × Int32) × ZS} {x0 : Nat} {x1 : Int32} {x2 : Int32} {S : ZS}  (hN : NQ S)  (hf : d_X11_remark x0 x1 x2 S = some o) : NQ o.2 ∧ KE S o.2 := by
  unfold d_X11_remark at hf
  obtain ⟨n_9, k_9⟩ := ke_X11_remark_0  hN  hf
  exact ⟨n_9, ke_t ke_0 k_9⟩
theorem ke_X11_man_10 {o : (Nat × Int32) × ZS} {S : ZS}  (hN : NQ S)  (hf : d_X11_man_10 S = some o) : NQ o.2 ∧ KE S o.2 := by
  unfold d_X11_man_10 at hf
  cases hf
  exact ⟨nq_q hN, ke_q ke_0⟩
theorem ke_X11_man_0 {o : (Nat × Int32) × ZS} {x0 : Nat} {x1 : Int32} {S : ZS}  (hN : NQ S)  (hf : d_X11_man_0 x0 x1 S = some o) : NQ o.2 ∧ KE S o.2 := by
  unfold d_X11_man_0 at hf
  rcases m_ifE hf with ⟨-, hf⟩ | ⟨-, hf⟩
  ·
    obtain ⟨n_9, k_9⟩ := ke_X11_man_10  hN  hf
    exact ⟨n_9, ke_t ke_0 k_9⟩
  ·
    rcases m_ifE hf with ⟨-, hf⟩ | ⟨-, hf⟩
    ·
      obtain ⟨q1, hf⟩ := m_chkE hf
      obtain ⟨b1, p_b1, hf⟩ := m_calE hf
      obtain ⟨q2, hf⟩ := m_chkE hf
      obtain ⟨b2, p_b2, hf⟩ := m_calE hf
      obtain ⟨q3, hf⟩ := m_chkE hf
      obtain ⟨q4, hf⟩ := m_chkE hf
      obtain ⟨v3, -, hf⟩ := m_bndE hf
      cases hf
      exact ⟨hN, ke_0⟩
    ·
      obtain ⟨n_9, k_9⟩ := ke_X11_man_10  hN  hf
      exact ⟨n_9, ke_t ke_0 k_9⟩
theorem ke_X11_man {o : (Nat × Int32) × ZS} {x0 : Nat} {x1 : Int32} {S : ZS}  (hN : NQ S)  (hf : d_X11_man x0 x1 S = some o) : NQ o.2 ∧ KE S o.2 := by
  unfold d_X11_man at hf
  obtain ⟨n_9, k_9⟩ := ke_X11_man_0  hN  hf
  exact ⟨n_9, ke_t ke_0 k_9⟩
theorem ke_X11_tag_19 {o : (Nat × Int32) × ZS} {S : ZS}  (hN : NQ S)  (hf : d_X11_tag_19 S = some o) : NQ o.2 ∧ KE S o.2 := by
  unfold d_X11_tag_19 at hf
  cases hf
  exact ⟨nq_q hN, ke_q ke_0⟩
theorem ke_X11_tag_65 {o : (Nat × Int32) × ZS} {t0 : Int32} {S : ZS}  (hN : NQ S)  (hf : d_X11_tag_65 t0 S = some o) : NQ o.2 ∧ KE S o.2 := by
  unfold d_X11_tag_65 at hf
  cases hf
  exact ⟨hN, ke_0⟩
theorem ke_X11_tag_0 {o : (Nat × Int32) × ZS} {x0 : Nat} {x1 : Int32} {x2 : Int32} {x3 : Int32} {S : ZS}  (hN : NQ S)  (hf : d_X11_tag_0 x0 x1 x2 x3 S = some o) : NQ o.2 ∧ KE S o.2 := by
  unfold d_X11_tag_0 at hf
  rcases m_ifE hf with ⟨-, hf⟩ | ⟨-, hf⟩
  ·
    obtain ⟨n_9, k_9⟩ := ke_X11_tag_19  hN  hf
    exact ⟨n_9, ke_t ke_0 k_9⟩
  ·
    obtain ⟨q1, hf⟩ := m_chkE hf
    obtain ⟨b1, p_b1, hf⟩ := m_calE hf
    obtain ⟨q2, hf⟩ := m_chkE hf
    rcases m_ifE hf with ⟨-, hf⟩ | ⟨-, hf⟩
    ·
      obtain ⟨n_9, k_9⟩ := ke_X11_tag_19  hN  hf
      exact ⟨n_9, ke_t ke_0 k_9⟩
    ·
      rcases m_ifE hf with ⟨-, hf⟩ | ⟨-, hf⟩
      ·
        obtain ⟨q3, hf⟩ := m_chkE hf
        obtain ⟨b2, p_b2, hf⟩ := m_calE hf
        obtain ⟨q4, hf⟩ := m_chkE hf
        obtain ⟨⟨r4, S5⟩, ho, hf⟩ := m_cal2E hf
        obtain ⟨n_S5, k_S5⟩ := ke_X1_tagAt hN  ho
        replace k_S5 := ke_t ke_0 k_S5
        clear ho
        rcases m_ifE hf with ⟨-, hf⟩ | ⟨-, hf⟩
        ·
          obtain ⟨q5, hf⟩ := m_chkE hf
          obtain ⟨b8, p_b8, hf⟩ := m_calE hf
          obtain ⟨q6, hf⟩ := m_chkE hf
          obtain ⟨o9, ho, hf⟩ := m_calE hf
          have r_o9 := ro_X6_at ho
          have n_o9 : NQ o9.2 := by rw [r_o9]; exact n_S5
          have k_o9 : KE S o9.2 := by rw [r_o9]; exact k_S5
          clear ho
          obtain ⟨-, hf⟩ := m_chkE hf
          obtain ⟨n_9, k_9⟩ := ke_X11_tag_65  n_o9  hf
          exact ⟨n_9, ke_t k_o9 k_9⟩
        ·
          obtain ⟨q7, hf⟩ := m_chkE hf
          obtain ⟨b10, p_b10, hf⟩ := m_calE hf
          obtain ⟨q8, hf⟩ := m_chkE hf
          obtain ⟨o11, ho, hf⟩ := m_calE hf
          have r_o11 := ro_X6_at ho
          have n_o11 : NQ o11.2 := by rw [r_o11]; exact n_S5
          have k_o11 : KE S o11.2 := by rw [r_o11]; exact k_S5
          clear ho
          obtain ⟨-, hf⟩ := m_chkE hf
          obtain ⟨n_9, k_9⟩ := ke_X11_tag_65  n_o11  hf
          exact ⟨n_9, ke_t k_o11 k_9⟩
      ·
        obtain ⟨n_9, k_9⟩ := ke_X11_tag_19  hN  hf
        exact ⟨n_9, ke_t ke_0 k_9⟩
theorem ke_X11_tag {o : (Nat × Int32) × ZS} {x0 : Nat} {x1 : Int32} {x2 : Int32} {x3 : Int32} {S : ZS}  (hN : NQ S)  (hf : d_X11_tag x0 x1 x2 x3 S = some o) : NQ o.2 ∧ KE S o.2 := by
  unfold d_X11_tag at hf
  obtain ⟨n_9, k_9⟩ := ke_X11_tag_0  hN  hf
  exact ⟨n_9, ke_t ke_0 k_9⟩
end
section
/-- both sides between two calls: also the tags of the game that stands -/
noncomputable def ST (I : Nat → Int32) (A : Nat → Nat → Int32) (S : ZS) : Prop := SR I A S ∧ ∃ g' L, zP S 7 1 = some g' ∧ TGk S g' L ∧ TGr A (((I 5).toInt.toNat : Nat) : Int) L
section STS
variable {S S' : ZS} {g g' : Nat} {I I' : Nat → Int32} {A A' : Nat → Nat → Int32} {W V : List (Nat × Nat)} {B C : List Nat} {Q : Nat → Prop} {L : List (List Int × List Int)} {x1 x2 x3 : Int32}
theorem tgk_o (h : TGk S g L) (e5 : zI S' 5 g = zI S 5 g) (eb : zB S' (g + 6) = zB S (g + 6)) (er : ∀ i t, zB S (g + 6) i = some t → ∀ w r, (r = t + 1 ∨ r = t + 2) → RWL S r w → RWL S' r w) : TGk S' g L := by
  obtain ⟨h1, h2, h3⟩ := h
  refine ⟨by rw [e5]; exact h1, h2, fun i hi => ?_⟩
  obtain ⟨t, t1, t2, t3⟩ := h3 i hi
  exact ⟨t, by rw [eb]; exact t1, er i t t1 _ _ (Or.inl rfl) t2, er i t t1 _ _ (Or.inr rfl) t3⟩
theorem tgk_ke (hx : CGx S) (hg : g = 35 ∨ g = 99) (h : TGk S g L) (k : KE S S') : TGk S' g L := by
  obtain ⟨⟨kg, -⟩, ⟨-, -, -, -, -, k6, -⟩, -⟩ := fx_g hx.1 hg
  have eg := k g (by rw [kg]; decide) (by unfold KP9; omega)
  have e6 := k (g + 6) (by rw [k6]; decide) (by unfold KP9; omega)
  refine tgk_o h (eg.2.2.1 5) e6.2.2.2.2.1 (fun i t ht w r hr hw => ?_)
  obtain ⟨t1, -, -, -, t5, t6⟩ := (cgx_g hx hg).2 i t ht
  have kr : zK S r = 6 := by
    rcases hr with e | e
    · rw [e]; exact t5
    · rw [e]; exact t6
  exact eqc_rl (k r (by rw [kr]; decide) (Or.inr (Or.inr (by omega)))) kr hw
theorem tgk_fq (hx : CGx S) (hg : g = 35 ∨ g = 99) (h : TGk S g L) (hF : FR Q S S') (h0 : ¬ Q g ∧ ¬ Q (g + 6)) (hr : ∀ i t, zB S (g + 6) i = some t → ¬ Q (t + 1) ∧ ¬ Q (t + 2)) : TGk S' g L := by
  obtain ⟨⟨kg, -⟩, ⟨-, -, -, -, -, k6, -⟩, -⟩ := fx_g hx.1 hg
  have eg := fr_e hF (a := g) (by rw [kg]; decide) h0.1
  have e6 := fr_e hF (a := g + 6) (by rw [k6]; decide) h0.2
  refine tgk_o h (eg.2.2.1 5) e6.2.2.2.2.1 (fun i t ht w r hrr hw => ?_)
  obtain ⟨t1, -, -, -, t5, t6⟩ := (cgx_g hx hg).2 i t ht
  obtain ⟨q1, q2⟩ := hr i t ht
  rcases hrr with e | e
  · subst e; exact eqc_rl (fr_e hF (by rw [t5]; decide) q1) t5 hw
  · subst e; exact eqc_rl (fr_e hF (by rw [t6]; decide) q2) t6 hw
theorem rwl_z {r : Nat} {w : List Int} (hT : ZT S) (kr : zK S r = 6) (f : FrZ W V B S S') (fa : FrA C S S') (hW : (6, 1) ∉ W ∧ (6, 0) ∉ V ∧ 13 ∉ C) (h : RWL S r w) : RWL S' r w := by
  have q := (f hT.2.2.2.2.1).2.2 r (by rw [kr]; decide)
  rw [kr] at q
  have e1 := q.2.2.1 1 hW.1
  have e0 := q.2.2.2.1 0 hW.2.1
  obtain ⟨c, pc, kc, s0, s1, -⟩ := hT.2.1 r kr
  refine ⟨by rw [e1]; exact h.1, fun i => ?_⟩
  rw [← h.2 i]
  unfold rwC
  rw [e1, e0, pc]
  by_cases hi : 0 ≤ i ∧ i < (zI S 1 r).toInt
  · rw [if_pos hi, if_pos hi]
    rcases kc with ec | ec
    · exfalso
      rw [ec] at s1
      have : zcap S 0 = 0 := if_pos rfl
      rw [this] at s1
      have z : ((0 : Nat) : Int) = 0 := rfl
      omega
    · have := ((fa hT.2.2.2.2.1).2 c (by rw [ec]; decide)).2 (by rw [ec]; exact hW.2.2)
      show (zA S' c i.toNat).toInt = (zA S c i.toNat).toInt
      rw [this]
  · rw [if_neg hi, if_neg hi]
theorem tgk_z (hT : ZT S) (hx : CGx S) (hg : g = 35 ∨ g = 99) (h : TGk S g L) (f : FrZ W V B S S') (fa : FrA C S S') (hW : (1, 5) ∉ W ∧ 17 ∉ B) (hR : (6, 1) ∉ W ∧ (6, 0) ∉ V ∧ 13 ∉ C) : TGk S' g L := by
  obtain ⟨⟨kg, -⟩, ⟨-, -, -, -, -, k6, -⟩, -⟩ := fx_g hx.1 hg
  have q := (f hT.2.2.2.2.1).2.2
  have qg := q g (by rw [kg]; decide)
  have q6 := q (g + 6) (by rw [k6]; decide)
  rw [kg] at qg
  rw [k6] at q6
  refine tgk_o h (qg.2.2.1 5 hW.1) (q6.2.2.2.2 hW.2) (fun i t ht w r hr hw => ?_)
  obtain ⟨t1, -, -, -, t5, t6⟩ := (cgx_g hx hg).2 i t ht
  have kr : zK S r = 6 := by
    rcases hr with e | e
    · rw [e]; exact t5
    · rw [e]; exact t6
  exact rwl_z hT kr f fa hR hw
/-- a node more: only nodes, the game's count and list, and one row of a node change -/
theorem gz_102f {SX : ZS} {c n : Nat} {o : Int32 × ZS} (hx : CGx S) (hg : GG g g') (hn : n < 300) (hX : GXn S SX g c n) (hf : d_X1_grow_102 g x1 x2 x3 SX = some o) : FR (fun a => zK SX a = 4 ∨ a = c + 1) SX o.2 := by
  obtain ⟨⟨kg, p0, p1, p2, p4, p7⟩, ⟨k1, k2', k3, k4, k5, k6, k7⟩, -⟩ := fx_g hx.1 (gg_g hg)
  obtain ⟨⟨b1, b2⟩, i3, iO, FX, old, ⟨c1, c2, c3, c4⟩, TX⟩ := hX
  have kgX : zK SX g = 1 := (fr_k FX (by rw [kg]; decide)).trans kg
  have q := (FX g (by rw [kg]; decide)).1.2.2.1 (by rw [kg]; rfl)
  have p1X : zP SX 1 g = some (g + 3) := (q 1).trans p1
  have p2X : zP SX 2 g = some (g + 5) := (q 2).trans p2
  have cnX : cn SX g = n + 1 := by unfold cn; rw [i3]; rfl
  have nkc : nk SX (g + 3) (g + 5) (n + 1) = c := by unfold nk; rw [if_neg (by omega), b1]; rfl
  have h147 : ∀ {S1 : ZS}, d_X1_grow_147 g S1 = some o → o.2 = S1 := fun hf => by
    unfold d_X1_grow_147 at hf
    obtain ⟨-, hf⟩ := m_chkE hf
    cases hf
    rfl
  unfold d_X1_grow_102 at hf
  obtain ⟨-, hf⟩ := m_chkE hf
  obtain ⟨-, hf⟩ := m_chkE hf
  obtain ⟨⟨r1, S1⟩, h1, hf⟩ := m_calE hf
  obtain ⟨-, hf⟩ := m_chkE hf
  obtain ⟨-, hf⟩ := m_chkE hf
  have e1 : S1 = SX := ro_X1_at h1
  have q1 : r1 = c := by
    have := (ok_of (t_f_X1_at (x1 := zI SX 3 g) TX kgX) h1).2.2
    rw [nd_nk TX kgX p1X p2X (by omega) (by omega), i3] at this
    rw [show ((n + 1 : Nat) : Int).toNat = n + 1 from rfl, nkc] at this
    exact this
  dsimp only at hf
  rw [e1, q1] at hf
  obtain ⟨⟨y2, S2⟩, h2, hf⟩ := m_calE hf
  obtain ⟨-, hf⟩ := m_chkE hf
  obtain ⟨T2, F2, -⟩ := p_become TX c2 c3 c4 h2
  dsimp only at T2 F2 hf
  have F2' : FR (fun a => zK SX a = 4 ∨ a = c + 1) SX S2 := fr_m F2 (fun a _ e => e.elim (fun e => Or.inl (by rw [e]; exact c2)) Or.inr)
  have lnk : ∀ {j b : Nat} {v : Int32} {S4 : ZS}, zK S2 b = 4 → S4 = zsI S2 j b v → FR (fun a => zK SX a = 4 ∨ a = c + 1) SX S4 := fun {j b v S4} kb e => by
    have f : FR (fun z => z = b) S2 S4 := fr_I e
    intro a ha
    obtain ⟨a1, a2⟩ := F2' a ha
    obtain ⟨d1, d2⟩ := f a (by rw [a1.1]; exact ha)
    rw [a1.1] at d1
    refine ⟨⟨d1.1.trans rfl, d1.2.1.trans a1.2.1, fun hv j => (d1.2.2.1 hv j).trans (a1.2.2.1 hv j), fun hk => (d1.2.2.2 hk).trans (a1.2.2.2 hk)⟩, fun hw => eqc_t (a2 hw) (d2 (fun e => hw (Or.inl (by rw [← a1.1, e]; exact kb))))⟩
  rcases m_ifE hf with ⟨-, hf⟩ | ⟨-, hf⟩
  · obtain ⟨-, hf⟩ := m_chkE hf
    obtain ⟨⟨r5, S5⟩, h5, hf⟩ := m_calE hf
    obtain ⟨-, hf⟩ := m_chkE hf
    obtain ⟨-, hf⟩ := m_chkE hf
    obtain ⟨kb, hf⟩ := m_chkE hf
    obtain ⟨S6, e6, hf⟩ := m_bndE hf
    have e5 : S5 = S2 := ro_X1_at h5
    dsimp only at kb e6
    rw [e5] at kb e6
    rw [h147 hf]
    exact lnk kb e6
  · obtain ⟨-, hf⟩ := m_chkE hf
    obtain ⟨⟨r5, S5⟩, h5, hf⟩ := m_calE hf
    obtain ⟨-, hf⟩ := m_chkE hf
    obtain ⟨-, hf⟩ := m_chkE hf
    obtain ⟨kb, hf⟩ := m_chkE hf
    obtain ⟨S6, e6, hf⟩ := m_bndE hf
    have e5 : S5 = S2 := ro_X1_at h5
    dsimp only at kb e6
    rw [e5] at kb e6
    rw [h147 hf]
    exact lnk kb e6
theorem tgk_grow {o : Int32 × ZS} (hT : ZT S) (h : SC S) (hg : g = 35 ∨ g = 99) (ht : TGk S g L) (hf : d_X1_grow g x1 x2 S = some o) : TGk o.2 g L := by
  have hg2 : ∃ g', GG g g' := hg.elim (fun e => ⟨99, Or.inl ⟨e, rfl⟩⟩) (fun e => ⟨35, Or.inr ⟨e, rfl⟩⟩)
  obtain ⟨g', hg2⟩ := hg2
  have hf : d_X1_grow_0 g x1 x2 S = some o := hf
  unfold d_X1_grow_0 at hf
  obtain ⟨kg, hf⟩ := m_chkE hf
  rcases m_ifE hf with ⟨c1, hf⟩ | ⟨c1, hf⟩
  · replace c1 := ti_ltP (a := zI S 3 g) (b := (300 : Int32)) c1 rfl (show (300 : Int32).toInt = 300 from rfl)
    obtain ⟨-, hf⟩ := m_chkE hf
    obtain ⟨o1, h1, hf⟩ := m_calE hf
    obtain ⟨-, hf⟩ := m_chkE hf
    obtain ⟨-, hf⟩ := m_chkE hf
    have e1 := ro_X1_at h1
    rw [e1] at hf
    obtain ⟨y, hf⟩ := gz_24 _ _ _ _ hf
    have hc := cn_le hT kg
    obtain ⟨SX, c, hX, hf⟩ := gz_64 hT h.1 hg rfl (by omega) hf
    have xX := gz_x h.1 hg2 hX
    have FX := hX.2.2.2.1
    have c2 := hX.2.2.2.2.2.1.2.1
    have c4 := hX.2.2.2.2.2.1.2.2.2
    have tX : TGk SX g L := by
      refine tgk_o ht ?_ ?_ (fun i t hti w r hr hw => ?_)
      · exact hX.2.2.1 5 (by decide)
      · have k6 : zK S (g + 6) = 17 := (fx_g h.1.1 hg).2.1.2.2.2.2.2.1
        exact (fr_e FX (a := g + 6) (by rw [k6]; decide) (by omega)).2.2.2.2.1
      · obtain ⟨t1, -, -, -, t5, t6⟩ := (cgx_g h.1 hg).2 i t hti
        rcases hr with e | e
        · subst e; exact eqc_rl (fr_e FX (by rw [t5]; decide) (by omega)) t5 hw
        · subst e; exact eqc_rl (fr_e FX (by rw [t6]; decide) (by omega)) t6 hw
    have FB := gz_102f h.1 hg2 (by omega) hX hf
    obtain ⟨⟨kgX, -⟩, ⟨-, -, -, -, -, k6X, -⟩, -⟩ := fx_g xX.1 hg
    refine tgk_fq xX hg tX FB ⟨fun e => ?_, fun e => ?_⟩ (fun i t hti => ?_)
    · rcases e with e | e
      · rw [kgX] at e; cases e
      · rw [← e, kgX] at c4; cases c4
    · rcases e with e | e
      · rw [k6X] at e; cases e
      · rw [← e, k6X] at c4; cases c4
    · obtain ⟨t1, t2, -, -, t5, t6⟩ := (cgx_g xX hg).2 i t hti
      refine ⟨fun e => ?_, fun e => ?_⟩
      · rcases e with e | e
        · rw [t5] at e; cases e
        · have ec : t = c := by omega
          rw [ec, c2] at t2; cases t2
      · rcases e with e | e
        · rw [t6] at e; cases e
        · have ec : t + 1 = c := by omega
          rw [ec, c2] at t5; cases t5
  · cases hf
    exact ht
theorem tgk_q (h : TGk S g L) : TGk (zsQ S) g L := h
theorem tgk_95 {r : (Nat × Int32) × ZS} (hT : ZT S) (hx : CGx S) (hg : g = 35 ∨ g = 99) (ht : TGk S g L) (hf : d_X11_add_95 1 x1 x2 S = some r) : TGk r.2 g L := by
  unfold d_X11_add_95 at hf
  obtain ⟨k1, hf⟩ := m_chkE hf
  obtain ⟨S1, e1, hf⟩ := m_bndE hf
  obtain ⟨-, hf⟩ := m_chkE hf
  obtain ⟨b2, -, hf⟩ := m_calE hf
  obtain ⟨-, hf⟩ := m_chkE hf
  obtain ⟨o3, h3, hf⟩ := m_calE hf
  obtain ⟨-, hf⟩ := m_chkE hf
  cases hf
  have f1 : FrZ [(0, 1), (0, 2), (0, 3), (0, 4), (0, 5), (0, 6), (11, 8)] [] [] S S1 := frz_I frz_0 k1 e1 (by decide)
  have a1 : FrA [14] S S1 := fra_I fra_0 e1
  exact tgk_z hT hx hg ht (frz_t f1 (fz_X0_play h3) (by decide) (by decide) (by decide)) (fra_t a1 (fa_X0_play h3) (by decide)) (by decide) (by decide)
theorem tgk_add {r : (Nat × Int32) × ZS} (hT : ZT S) (hZ : TZ S) (hcur : ∀ g', zP S 7 1 = some g' → (zI S 8 1).toInt ≤ (cn S g' : Int)) (h : SC S) (p70 : zP S 7 1 = some g) (ht : TGk S g L) (hf : d_X11_add 1 x1 S = some r) : TGk r.2 g L := by
  have hg : g = 35 ∨ g = 99 := (sc_7 h p70).1
  have hf : d_X11_add_0 1 x1 S = some r := hf
  have h72 : ∀ {S1 : ZS}, TGk S1 g L → d_X11_add_72 S1 = some r → TGk r.2 g L := fun h hf => by
    unfold d_X11_add_72 at hf
    cases hf
    exact tgk_q h
  unfold d_X11_add_0 at hf
  obtain ⟨kx, hf⟩ := m_chkE hf
  obtain ⟨b1, p1, hf⟩ := m_calE hf
  obtain ⟨-, hf⟩ := m_chkE hf
  obtain ⟨b2, p2, hf⟩ := m_calE hf
  obtain ⟨kb1, hf⟩ := m_chkE hf
  obtain ⟨⟨y3, S3⟩, h3, hf⟩ := m_calE hf
  obtain ⟨-, hf⟩ := m_chkE hf
  have k2 : zK S b2 = 0 := by
    obtain ⟨c, q, k⟩ := T_11_9 hT kx
    rw [p2] at q
    cases q
    exact k
  have T3 : ZT S3 := (ok_of (t_f_X7_isLegal (SZ := S) (x0 := b1) (x1 := b2) (x2 := x1) hT (a7_0 S) kb1 k2) h3).1
  have F3 := fz_X7_isLegal h3
  have s3 : SC S3 := sc_z h hT F3 (by decide)
  have Z3 : TZ S3 := tz_fr hT F3 (by decide) hZ
  have t3 : TGk S3 g L := tgk_z hT h.1 hg ht F3 (fa_X7_isLegal h3) (by decide) (by decide)
  dsimp only at hf
  rcases m_ifE hf with ⟨-, hf⟩ | ⟨-, hf⟩
  · cases hf
    exact tgk_q t3
  · obtain ⟨kx3, hf⟩ := m_chkE hf
    obtain ⟨b4, p4, hf⟩ := m_calE hf
    obtain ⟨-, hf⟩ := m_chkE hf
    obtain ⟨kb4, hf⟩ := m_chkE hf
    obtain ⟨o5, h5, hf⟩ := m_calE hf
    obtain ⟨-, hf⟩ := m_chkE hf
    have e5 : o5.2 = S3 := by
      obtain ⟨y, q, -⟩ := roz (t_f_X1_childWith (x1 := zI S3 8 1) (x2 := x1) T3 kb4)
      rw [q] at h5
      cases h5
      rfl
    rw [e5] at hf
    have ex := (F3 hT.2.2.2.2.1).2.2
    have kS1 : zK S 1 = 11 := kx
    have p7 : zP S3 7 1 = some g := by rw [(ex 1 (by rw [kS1]; decide)).2.2.2.1 7 (by rw [kS1]; decide)]; exact p70
    rcases m_ifE hf with ⟨-, hf⟩ | ⟨-, hf⟩
    · obtain ⟨-, hf⟩ := m_chkE hf
      obtain ⟨b6, p6, hf⟩ := m_calE hf
      obtain ⟨-, hf⟩ := m_chkE hf
      rcases m_ifE hf with ⟨-, hf⟩ | ⟨-, hf⟩
      · exact h72 t3 hf
      · obtain ⟨-, hf⟩ := m_chkE hf
        obtain ⟨b7, p7', hf⟩ := m_calE hf
        obtain ⟨-, hf⟩ := m_chkE hf
        obtain ⟨kb7, hf⟩ := m_chkE hf
        obtain ⟨o8, h8, hf⟩ := m_calE hf
        obtain ⟨-, hf⟩ := m_chkE hf
        have e8 : o8.2 = S3 := by
          obtain ⟨y, q, -⟩ := roz (t_f_X1_deepOfNext (x1 := zI S3 8 1) T3 kb7)
          rw [q] at h8
          cases h8
          rfl
        rw [e8] at hf
        rcases m_ifE hf with ⟨-, hf⟩ | ⟨-, hf⟩
        · obtain ⟨-, hf⟩ := m_chkE hf
          obtain ⟨b9, p9, hf⟩ := m_calE hf
          obtain ⟨-, hf⟩ := m_chkE hf
          obtain ⟨kb9, hf⟩ := m_chkE hf
          obtain ⟨⟨y11, S12⟩, h11, hf9⟩ := m_cal2E hf
          have eb : b9 = g := by rw [p7] at p9; exact (Option.some.inj p9).symm
          rw [eb] at h11 kb9
          have kg0 : zK S g = 1 := (sc_7 h p70).2
          have c3 : (zI S3 8 1).toInt ≤ (cn S3 g : Int) := by
            have q1 : zI S3 8 1 = zI S 8 1 := (ex 1 (by rw [kS1]; decide)).2.2.1 8 (by rw [kS1]; decide)
            have q2 : zI S3 3 g = zI S 3 g := (ex g (by rw [kg0]; decide)).2.2.1 3 (by rw [kg0]; decide)
            unfold cn
            rw [q1, q2]
            exact hcur g p70
          have T12 : ZT S12 := (ok_of (t_d_X1_grow (SZ := S3) (x0 := g) (x1 := zI S3 8 1) (x2 := x1) T3 (rp_0 S3) kb9 Z3 (by rcases hg with e | e <;> rw [e] <;> decide) ⟨(J_11_8 T3 kx3).1, c3⟩) h11).1
          have s12 : SC S12 := sc_grow T3 s3 hg h11
          exact tgk_95 T12 s12.1 hg (tgk_grow T3 s3 hg t3 h11) hf9
        · exact h72 t3 hf
    · exact tgk_95 T3 s3.1 hg t3 hf
theorem tgk_2 (hx : CGx S) (hg : g = 35 ∨ g = 99) (h : TGk S g L) (hF : FR (fun a => a = 2) S S') : TGk S' g L :=
  tgk_fq hx hg h hF (by omega) (fun i t ht => by
    have := ((cgx_g hx hg).2 i t ht).1
    omega)
theorem tgk_say {o : (Nat × Int32) × ZS} (hC : CG S) (hs : SM I A S) (hg : g = 35 ∨ g = 99) (p7 : zP S 7 1 = some g) (h : TGk S g L) (ho : d_X11_say 1 S = some o) : TGk o.2 g L := by
  have hx := cg_x hC
  rcases p_say hC hg p7 hs.2 ho with ⟨-, -, -, -, -, F, -⟩ | ⟨-, -, e⟩
  · obtain ⟨kn, -, kn1, hn⟩ := nd_fx (x1 := zI S 8 1) hC hg
    obtain ⟨⟨kg, -⟩, ⟨-, -, -, -, -, k6, -⟩, -⟩ := fx_g hx.1 hg
    refine tgk_fq hx hg h F ⟨fun e => ?_, fun e => ?_⟩ (fun i t ht => ?_)
    · rcases e with e | e
      · omega
      · rw [← e, kg] at kn1; cases kn1
    · rcases e with e | e
      · omega
      · rw [← e, k6] at kn1; cases kn1
    · obtain ⟨t1, t2, -, -, t5, t6⟩ := (cgx_g hx hg).2 i t ht
      refine ⟨fun e => ?_, fun e => ?_⟩
      · rcases e with e | e
        · omega
        · have ec : t = nd S g (zI S 8 1) := by omega
          rw [ec, kn] at t2; cases t2
      · rcases e with e | e
        · omega
        · have ec : t + 1 = nd S g (zI S 8 1) := by omega
          rw [ec, kn] at t5; cases t5
  · rw [e]; exact tgk_q h
theorem tgk_type {x : Int64} {o : Int32 × ZS} (hC : CG S) (hs : SM I A S) (hg : g = 35 ∨ g = 99) (h : TGk S g L) (ho : d_X11_type 1 x x3 S = some o) : TGk o.2 g L := by
  obtain ⟨w, hw, -, -⟩ := tx_l hC hs.2
  rcases p_type hC hw ho with ⟨-, -, -, -, F⟩ | ⟨-, -, e⟩
  · exact tgk_2 (cg_x hC) hg h F
  · rw [e]; exact h
theorem tgk_cut {o : Int32 × ZS} (hC : CG S) (hs : SM I A S) (hg : g = 35 ∨ g = 99) (h : TGk S g L) (ho : f_X11_cut 1 x1 S = some o) : TGk o.2 g L := by
  rcases p_cut hC hs.2 ho with ⟨-, -, -, -, F⟩ | ⟨-, -, e⟩
  · exact tgk_2 (cg_x hC) hg h F
  · rw [e]; exact h
theorem tgr_rdf {g0 : Nat} (h : TGr A ((g0 : Nat) : Int) L) (hg0 : g0 ≤ 1) (hg : g ≤ 1) (hne : g0 ≠ g) (D : RDf A A' g) : TGr A' ((g0 : Nat) : Int) L := by
  obtain ⟨h1, h2, h3⟩ := h
  have e18 : A' 18 g0 = A 18 g0 := D.2 18 (by decide) (by decide) g0 (by rw [show sz 18 = 1 from rfl, Nat.div_one]; exact hne)
  refine ⟨?_, h2, fun i i0 i1 => ?_⟩
  · rw [Int.toNat_natCast] at h1 ⊢
    rw [e18]; exact h1
  · obtain ⟨⟨n1, n2, n3⟩, v1, v2, v3⟩ := h3 i i0 i1
    have e19 : A' 19 (8 * (g0 : Int) + i).toNat = A 19 (8 * (g0 : Int) + i).toNat := D.2 19 (by decide) (by decide) _ (by rw [show sz 19 = 8 from rfl]; omega)
    have e21 : A' 21 (8 * (g0 : Int) + i).toNat = A 21 (8 * (g0 : Int) + i).toNat := D.2 21 (by decide) (by decide) _ (by rw [show sz 21 = 8 from rfl]; omega)
    refine ⟨⟨by rw [e19]; exact n1, n2, fun j j0 j1 => ?_⟩, by rw [e21]; exact v1, v2, fun j j0 j1 => ?_⟩
    · rw [D.2 20 (by decide) (by decide) _ (by rw [show sz 20 = 96 from rfl]; omega)]
      exact n3 j j0 j1
    · rw [D.2 22 (by decide) (by decide) _ (by rw [show sz 22 = 768 from rfl]; omega)]
      exact v3 j j0 j1
theorem sT_gen (h : ST I A S) (hr : SR I' A' S') (h7 : zP S' 7 1 = zP S 7 1) (tk : ∀ g' L, zP S 7 1 = some g' → (g' = 35 ∨ g' = 99) → TGk S g' L → TGk S' g' L) (h5 : I' 5 = I 5) (hA : ∀ j, 18 ≤ j → j ≤ 22 → A' j = A j) : ST I' A' S' := by
  obtain ⟨hs, g', L, p7, tg, tr⟩ := h
  refine ⟨hr, g', L, h7.trans p7, tk g' L p7 (sc_7 hs.1.1 p7).1 tg, ?_⟩
  rw [h5]
  exact tgr_e tr hA
theorem sT_c (hK : zK S' = zK S) (hI : zI S' = zI S) (hP : zP S' = zP S) (hN : zN S' = zN S) (hA : zA S' = zA S) (hB : zB S' = zB S) (h : ST I A S) : ST I A S' := by
  refine ⟨sr_c hK hI hP hN hA hB h.1, ?_⟩
  have h2 := h.2
  unfold TGk RWL rwC at h2 ⊢
  simp only [hI, hP, hA, hB]
  exact h2
theorem fr_7 (hs : SC S) (f : FrZ W V B S S') (hF : Fh S) (hV : (11, 7) ∉ V) : zP S' 7 1 = zP S 7 1 := by
  have k1 : zK S 1 = 11 := fx_k hs.1.1 (by decide) (by decide)
  exact ((f hF).2.2 1 (by rw [k1]; decide)).2.2.2.1 7 (by rw [k1]; exact hV)
theorem sT_read {o2 : Int32 × MS} {o : Int32 × ZS} (hC : CG S) (hI : TJ I) (hA : TK A) (h : ST I A S) (h2 : f_read I A = some o2) (ho : d_X11_read 1 S = some o) : ST o2.2.1 o2.2.2 o.2 := by
  obtain ⟨hr, g', L0, p7, tg, tr⟩ := h
  have hs := hr.1
  refine ⟨sr_read hC hI hA hr h2 ho, ?_⟩
  obtain ⟨g, g2, hg, p3, p72⟩ := hs.1.2
  rw [p7] at p72
  cases p72
  have wb := hs.2.2.2
  have b5 : 0 ≤ (I 5).toInt ∧ (I 5).toInt ≤ 1 := hI 5
  have hgr : g' = 35 ∨ g' = 99 := gg_g (gg_s hg)
  rcases p_read hC hg p3 p7 hs.2 ho with ⟨L, st, T, r, a1, a2, a3, a4, a5, a6, a7, -⟩ | ⟨a1, a2, a3⟩
  · rcases v_read (g := 1 - (I 5).toInt.toNat) hI hA rfl rfl wb.1 wb.2 (by omega) (by omega) h2 with ⟨L', st', T', r', b1, b2, b3, b4, b5', b6⟩ | ⟨b1, -⟩
    · rw [a1] at b1
      cases b1
      have e5 : (o2.2.1 5).toInt.toNat = 1 - (I 5).toInt.toNat := by omega
      exact ⟨g, L, a5, a7.2.2.1, by rw [e5]; exact b6.2.2.1⟩
    · rw [a1] at b1; cases b1
  · rcases v_read (g := 1 - (I 5).toInt.toNat) hI hA rfl rfl wb.1 wb.2 (by omega) (by omega) h2 with ⟨L', st', T', r', b1, -⟩ | ⟨b1, b2, b3, b4, b5', -⟩
    · rw [a1] at b1; cases b1
    · have D := rdt_read (g := 1 - (I 5).toInt.toNat) hI hA rfl rfl wb.1 wb.2 (by omega) (by omega) h2
      have k1 : zK S 1 = 11 := fx_k hs.1.1.1 (by decide) (by decide)
      have e1 : EQc S (zsP S 2 23 (some 2)) 1 := eqc_P rfl (by decide)
      have q7 := (a3 1 (by show zK S 1 < 18; rw [k1]; decide)).1.2.2.1 (by show vPk (zK S 1) = false; rw [k1]; rfl) 7
      have hx := cg_x hC
      have K : ∀ a, zK S a < 18 → a ≠ 23 → KPc (zsP S 2 23 (some 2)) g' a → EQc S o.2 a := fun a ha hn hk => eqc_t (eqc_P rfl hn) (fr_e a3 ha (fun hh => hh hk))
      obtain ⟨⟨kg, -⟩, ⟨-, -, -, -, -, k6, -⟩, -⟩ := fx_g hx.1 hgr
      have eg := K g' (by rw [kg]; decide) (by omega) (Or.inr (Or.inr (Or.inr (Or.inr (Or.inl ⟨Nat.le_refl _, by omega⟩)))))
      have e6 := K (g' + 6) (by rw [k6]; decide) (by omega) (Or.inr (Or.inr (Or.inr (Or.inr (Or.inl ⟨by omega, by omega⟩)))))
      refine ⟨g', L0, by rw [q7, e1.2.2.2.1]; exact p7, tgk_o tg (eg.2.2.1 5) e6.2.2.2.2.1 (fun i t ht w r hrr hw => ?_), ?_⟩
      · obtain ⟨t1, -, -, -, t5, t6⟩ := (cgx_g hx hgr).2 i t ht
        have kr : zK S r = 6 := by
          rcases hrr with e | e
          · rw [e]; exact t5
          · rw [e]; exact t6
        exact eqc_rl (K r (by rw [kr]; decide) (by omega) (Or.inr (Or.inr (Or.inr (Or.inr (Or.inr (Or.inr ⟨i, t, ht, by omega⟩))))))) kr hw
      · rw [b5']
        exact tgr_rdf tr (by omega) (by omega) (by omega) D
/-- tag's answer on both sides -/
theorem sT_tag {o2 : Int32 × MS} {o : (Nat × Int32) × ZS} (hC : CG S) (hA : TK A) (h5b : 0 ≤ (I 5).toInt ∧ (I 5).toInt ≤ 1) (h : ST I A S) (h2 : f_tag x1 x2 x3 I A = some o2) (ho : d_X11_tag 1 x1 x2 x3 S = some o) : (o.1.1 = 0 ∧ o2.2.1 0 = 0 ∧ o.1.2 = o2.1) ∨ (o.1.1 = 2 ∧ o2.2.1 0 = 1) := by
  obtain ⟨hr, g', L, p7, tg, tr⟩ := h
  have hx := cg_x hC
  obtain ⟨hgr, kg⟩ := sc_7 hr.1.1 p7
  have hf : d_X11_tag_0 1 x1 x2 x3 S = some o := ho
  have hg : f_tag_0 x1 x2 x3 I A = some o2 := h2
  have n5 : (I 5).toNatClampNeg = (I 5).toInt.toNat := cl_n (by omega)
  have z0 : (0 : Int32).toInt = 0 := rfl
  have l1 := tg.1
  have l8 := tg.2.1
  have a18 : (A 18 (I 5).toInt.toNat).toInt = (L.length : Int) := by
    have := tr.1
    rw [Int.toNat_natCast] at this
    exact this
  have r22 : f_tag_22 x1 x2 x3 I A = some o2 → o2.2.1 0 = 1 := fun hh => by
    unfold f_tag_22 f_tag_27 at hh
    obtain ⟨I1, e1, hh⟩ := m_bndE hh
    have j0 : I1 0 = 1 := by rw [e1, upd_self]
    rcases m_ifE hh with ⟨c, hh⟩ | ⟨-, hh⟩
    · rw [j0] at c; exact absurd c (by decide)
    · cases hh
      exact j0
  have c19 : d_X11_tag_19 S = some o → o.1.1 = 2 := fun hh => by
    unfold d_X11_tag_19 at hh
    cases hh
    rfl
  unfold d_X11_tag_0 at hf
  unfold f_tag_0 at hg
  rcases m_ifE hf with ⟨c, hf⟩ | ⟨c, hf⟩
  · rcases m_ifE hg with ⟨-, hg⟩ | ⟨c2, hg⟩
    · exact Or.inr ⟨c19 hf, r22 hg⟩
    · exact absurd c c2
  · rcases m_ifE hg with ⟨c2, hg⟩ | ⟨-, hg⟩
    · exact absurd c2 c
    · replace c := ti_ltN (a := x1) (b := (0 : Int32)) c rfl z0
      obtain ⟨-, hf⟩ := m_chkE hf
      obtain ⟨b1, p1, hf⟩ := m_calE hf
      have eb1 : b1 = g' := by rw [p7] at p1; exact (Option.some.inj p1).symm
      rw [eb1] at hf
      obtain ⟨-, hf⟩ := m_chkE hf
      obtain ⟨-, hg⟩ := m_chkE hg
      obtain ⟨v1, e1, hg⟩ := m_bndE hg
      rw [n5] at e1
      have t1 : v1.toInt = (L.length : Int) := by rw [e1]; exact a18
      rcases m_ifE hf with ⟨d, hf⟩ | ⟨d, hf⟩
      · replace d := ti_leP (a := zI S 5 g') (b := x1) d rfl rfl
        rcases m_ifE hg with ⟨-, hg⟩ | ⟨d2, hg⟩
        · exact Or.inr ⟨c19 hf, r22 hg⟩
        · replace d2 := ti_leN (a := v1) (b := x1) d2 rfl rfl
          omega
      · replace d := ti_leN (a := zI S 5 g') (b := x1) d rfl rfl
        rcases m_ifE hg with ⟨d2, hg⟩ | ⟨-, hg⟩
        · replace d2 := ti_leP (a := v1) (b := x1) d2 rfl rfl
          omega
        · rcases m_ifE hf with ⟨c3, hf⟩ | ⟨c3, hf⟩
          · rcases m_ifE hg with ⟨-, hg⟩ | ⟨c4, hg⟩
            · replace c3 := ti_leP (a := (0 : Int32)) (b := x3) c3 z0 rfl
              obtain ⟨-, hf⟩ := m_chkE hf
              obtain ⟨b2, p2, hf⟩ := m_calE hf
              have eb2 : b2 = g' := by rw [p7] at p2; exact (Option.some.inj p2).symm
              rw [eb2] at hf
              obtain ⟨-, hf⟩ := m_chkE hf
              obtain ⟨⟨r4, S5⟩, h4, hf⟩ := m_cal2E hf
              have hi : x1.toInt.toNat < L.length := by omega
              obtain ⟨t, ht, w1, w2⟩ := tg.2.2 x1.toInt.toNat hi
              obtain ⟨e5, e4⟩ := p_tagC (x1 := x1) (fx_g hx.1 hgr).1.2.2.2.2.1 ⟨by omega, by omega⟩ ht h4
              obtain ⟨-, t2, t3, t4, t5, t6⟩ := (cgx_g hx hgr).2 _ t ht
              dsimp only at hf
              rw [e5, e4] at hf
              have ei : ((x1.toInt.toNat : Nat) : Int) = x1.toInt := by omega
              rw [ei] at w1 w2
              obtain ⟨⟨n1, n2, n3⟩, m1, m2, m3⟩ := tr.2.2 x1.toInt (by omega) (by omega)
              have eg : (((I 5).toInt.toNat : Nat) : Int) = (I 5).toInt := by omega
              rw [eg] at n1 n3 m1 m3
              -- the reference
              unfold f_tag_27 at hg
              obtain ⟨I1, f1, hg⟩ := m_bndE hg
              have j0 : I1 0 = 0 := by rw [f1, upd_self]
              have j5 : I1 5 = I 5 := by rw [f1, upd_ne (by decide)]
              have r132 : ∀ {v : Int32}, f_tag_132 v I1 A = some o2 → o2.2.1 0 = 0 ∧ o2.1 = v := fun hh => by
                unfold f_tag_132 at hh
                cases hh
                exact ⟨j0, rfl⟩
              have c65 : ∀ {v : Int32} {S1 : ZS}, d_X11_tag_65 v S1 = some o → o.1.1 = 0 ∧ o.1.2 = v := fun hh => by
                unfold d_X11_tag_65 at hh
                cases hh
                exact ⟨rfl, rfl⟩
              have rt : ∀ v4 : Int32, f_tag_74 x1 x2 x3 v4 I1 A = some o2 → (x2 = 0 → v4.toInt = ((nmL L x1.toInt).length : Int)) → (x2 ≠ 0 → v4.toInt = ((vlL L x1.toInt).length : Int)) → o2.2.1 0 = 0 ∧ (x2 = 0 → o2.1.toInt = wA (nmL L x1.toInt) x3.toInt) ∧ (x2 ≠ 0 → o2.1.toInt = wA (vlL L x1.toInt) x3.toInt) := fun v4 hh q1 q2 => by
                unfold f_tag_74 at hh
                rcases m_ifE hh with ⟨d1, hh⟩ | ⟨d1, hh⟩
                · replace d1 := ti_ltP (a := x3) (b := v4) d1 rfl rfl
                  rcases m_ifE hh with ⟨d2, hh⟩ | ⟨d2, hh⟩
                  · have q1 := q1 d2
                    obtain ⟨u1, g1, hh⟩ := m_bndE hh
                    obtain ⟨u2, g2, hh⟩ := m_bndE hh
                    obtain ⟨u3, g3, hh⟩ := m_bndE hh
                    obtain ⟨u4, g4, hh⟩ := m_bndE hh
                    obtain ⟨-, hh⟩ := m_chkE hh
                    obtain ⟨u5, g5, hh⟩ := m_bndE hh
                    have s1 : u1.toInt = 96 * (I1 5).toInt := ti_mul g1 (show (96 : Int32).toInt = 96 from rfl) rfl (by rw [j5]; omega) (by rw [j5]; omega)
                    have s2 : u2.toInt = 12 * x1.toInt := ti_mul g2 (show (12 : Int32).toInt = 12 from rfl) rfl (by omega) (by omega)
                    rw [j5] at s1
                    have s3 : u3.toInt = u1.toInt + u2.toInt := ti_add g3 rfl rfl (by omega) (by omega)
                    have s4 : u4.toInt = u3.toInt + x3.toInt := ti_add g4 rfl rfl (by omega) (by omega)
                    have i4 : u4.toNatClampNeg = (96 * (I 5).toInt + 12 * x1.toInt + x3.toInt).toNat := cl_n (by omega)
                    obtain ⟨a1, a2⟩ := r132 hh
                    refine ⟨a1, fun _ => ?_, fun hn => absurd d2 hn⟩
                    rw [a2, g5, i4]
                    exact n3 x3.toInt c3 (by omega)
                  · have q2 := q2 d2
                    obtain ⟨u1, g1, hh⟩ := m_bndE hh
                    obtain ⟨u2, g2, hh⟩ := m_bndE hh
                    obtain ⟨u3, g3, hh⟩ := m_bndE hh
                    obtain ⟨u4, g4, hh⟩ := m_bndE hh
                    obtain ⟨-, hh⟩ := m_chkE hh
                    obtain ⟨u5, g5, hh⟩ := m_bndE hh
                    have s1 : u1.toInt = 768 * (I1 5).toInt := ti_mul g1 (show (768 : Int32).toInt = 768 from rfl) rfl (by rw [j5]; omega) (by rw [j5]; omega)
                    have s2 : u2.toInt = 96 * x1.toInt := ti_mul g2 (show (96 : Int32).toInt = 96 from rfl) rfl (by omega) (by omega)
                    rw [j5] at s1
                    have s3 : u3.toInt = u1.toInt + u2.toInt := ti_add g3 rfl rfl (by omega) (by omega)
                    have s4 : u4.toInt = u3.toInt + x3.toInt := ti_add g4 rfl rfl (by omega) (by omega)
                    have i4 : u4.toNatClampNeg = (768 * (I 5).toInt + 96 * x1.toInt + x3.toInt).toNat := cl_n (by omega)
                    obtain ⟨a1, a2⟩ := r132 hh
                    refine ⟨a1, fun hn => absurd hn d2, fun _ => ?_⟩
                    rw [a2, g5, i4]
                    exact m3 x3.toInt c3 (by omega)
                · replace d1 := ti_ltN (a := x3) (b := v4) d1 rfl rfl
                  obtain ⟨a1, a2⟩ := r132 hh
                  refine ⟨a1, fun hn => ?_, fun hn => ?_⟩
                  · have := q1 hn
                    rw [a2, wA_out (by omega)]; rfl
                  · have := q2 hn
                    rw [a2, wA_out (by omega)]; rfl
              have s8 : ∀ {u v : Int32}, u = (8 : Int32) * I1 5 → v = u + x1 → v.toNatClampNeg = (8 * (I 5).toInt + x1.toInt).toNat := fun {u v} g1 g2 => by
                have s1 : u.toInt = 8 * (I1 5).toInt := ti_mul g1 (show (8 : Int32).toInt = 8 from rfl) rfl (by rw [j5]; omega) (by rw [j5]; omega)
                rw [j5] at s1
                have s2 : v.toInt = u.toInt + x1.toInt := ti_add g2 rfl rfl (by omega) (by omega)
                exact cl_n (by omega)
              rcases m_ifE hg with ⟨-, hg⟩ | ⟨cn, hg⟩
              · rcases m_ifE hf with ⟨d2, hf⟩ | ⟨d2, hf⟩
                · rcases m_ifE hg with ⟨-, hg⟩ | ⟨d3, hg⟩
                  · obtain ⟨u1, g1, hg⟩ := m_bndE hg
                    obtain ⟨u2, g2, hg⟩ := m_bndE hg
                    obtain ⟨-, hg⟩ := m_chkE hg
                    obtain ⟨u3, g3, hg⟩ := m_bndE hg
                    obtain ⟨a1, a2, -⟩ := rt u3 hg (fun _ => by rw [g3, s8 g1 g2]; exact n1) (fun hn => absurd d2 hn)
                    obtain ⟨-, hf⟩ := m_chkE hf
                    obtain ⟨b8, p8, hf⟩ := m_calE hf
                    rw [t3] at p8
                    cases p8
                    obtain ⟨-, hf⟩ := m_chkE hf
                    obtain ⟨o9, h9, hf⟩ := m_calE hf
                    obtain ⟨-, hf⟩ := m_chkE hf
                    obtain ⟨b1', b2'⟩ := c65 hf
                    have at9 := pc_X6_at h9
                    rw [w1.2] at at9
                    exact Or.inl ⟨b1', a1, Int32.toInt_inj.1 (by rw [b2', at9, a2 d2])⟩
                  · exact absurd d2 d3
                · rcases m_ifE hg with ⟨d3, hg⟩ | ⟨-, hg⟩
                  · exact absurd d3 d2
                  · obtain ⟨u1, g1, hg⟩ := m_bndE hg
                    obtain ⟨u2, g2, hg⟩ := m_bndE hg
                    obtain ⟨-, hg⟩ := m_chkE hg
                    obtain ⟨u3, g3, hg⟩ := m_bndE hg
                    obtain ⟨a1, -, a2⟩ := rt u3 hg (fun hn => absurd hn d2) (fun _ => by rw [g3, s8 g1 g2]; exact m1)
                    obtain ⟨-, hf⟩ := m_chkE hf
                    obtain ⟨b8, p8, hf⟩ := m_calE hf
                    rw [t4] at p8
                    cases p8
                    obtain ⟨-, hf⟩ := m_chkE hf
                    obtain ⟨o9, h9, hf⟩ := m_calE hf
                    obtain ⟨-, hf⟩ := m_chkE hf
                    obtain ⟨b1', b2'⟩ := c65 hf
                    have at9 := pc_X6_at h9
                    rw [w2.2] at at9
                    exact Or.inl ⟨b1', a1, Int32.toInt_inj.1 (by rw [b2', at9, a2 d2])⟩
              · exact absurd (show I1 0 ≤ 0 by rw [j0]; decide) cn
            · exact absurd c3 c4
          · rcases m_ifE hg with ⟨c4, hg⟩ | ⟨-, hg⟩
            · exact absurd c4 c3
            · exact Or.inr ⟨c19 hf, r22 hg⟩
end STS
end
