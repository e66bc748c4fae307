/-- how long the sign of a result is -/
noncomputable def rsN (r : Int) : Int := ((strL (rsS r)).length : Int)
theorem rsN_v (r : Int) : rsN r = if r = 1 then 3 else if r = 2 then 3 else if r = 3 then 7 else 1 := by
  have a3 : ((strL 3).length : Int) = 3 := by decide
  have a4 : ((strL 4).length : Int) = 3 := by decide
  have a5 : ((strL 5).length : Int) = 7 := by decide
  have a6 : ((strL 6).length : Int) = 1 := by decide
  unfold rsN rsS
  split
  · exact a3
  · split
    · exact a4
    · split
      · exact a5
      · exact a6
theorem rsN_b (r : Int) : 1 ≤ rsN r ∧ rsN r ≤ 7 := by
  rw [rsN_v]
  split
  · omega
  · split
    · omega
    · split <;> omega
section RDE
variable {S0 S S' : ZS} {g g' : Nat} {ch : Int → Int} {N p q : Int} {st : PO} {L : List (List Int × List Int)} {T : TRa} {o : Int32 × ZS} {W : Nat → Prop}
theorem ms_n (h : MSt S0 S g g' ch N p st L T) : HSn S0 S g' := ⟨h.1, h.2.1.2.2⟩
theorem ms_rd (h : MSt S0 S g g' ch N p st L T) (hL : LW S' ch N q) (hq : q ≤ N) (hF : FR W S S') (hW : ∀ a, W a → WRd a) : MSt S0 S' g g' ch N q st L T := by
  obtain ⟨c, ⟨hg, hX, hF0⟩, ⟨l, -, p3⟩, ⟨tr, hw, h0⟩, bo, tg, lb⟩ := h
  have hb : (g = 35 ∧ g' = 99) ∨ (g = 99 ∧ g' = 35) := hg
  have nw : ∀ a, ¬ WRd a → ¬ W a := fun a hn hw => hn (hW a hw)
  have k23 := l.2.1.1
  have kl := fun a h1 h2 => fx_l (a := a) c.2.2.1 h1 h2
  refine ⟨cg_rd c hL.1 hF hW, ⟨hg, hX, fr_t hF0 (fr_m hF (fun a _ ha => kp_fix c hg hF0 hX (by have := hW a ha; unfold WRd at this; omega)))⟩, ⟨hL, hq, ((hF 23 (by rw [k23]; decide)).1.2.2.1 (by rw [k23]; rfl) 3).trans p3⟩, ⟨trc_e c (gg_g hg) tr (fun a ha => fr_e hF (tc_lt c (gg_g hg) ha) (nw a (tc_wr c (gg_g hg) ha))), hw, h0⟩, bo_fr bo hF (nw _ (by unfold WRd; omega)) (nw _ (by unfold WRd; omega)), tgk_fr c (gg_g hg) tg hF ((fr_e hF (kl g (by omega) (by omega)) (nw _ (by unfold WRd; omega))).2.2.1 5) (nw _ (by unfold WRd; omega)) (fun i t ht => ?_), lb⟩
  have := ((gm_of c (gg_g hg)).2 i t ht).1
  exact ⟨nw _ (by unfold WRd; omega), nw _ (by unfold WRd; omega)⟩
/-- the game's result is set -/
theorem ms_6 {v : Int32} (h : MSt S0 S g g' ch N p st L T) (e : S' = zsI S 6 g v) : MSt S0 S' g g' ch N p st L T ∧ zI S' 6 g = v := by
  obtain ⟨c, ⟨hg, hX, hF0⟩, ⟨l, hpN, p3⟩, ⟨tr, hw, h0⟩, bo, tg, lb⟩ := h
  have hb : (g = 35 ∧ g' = 99) ∨ (g = 99 ∧ g' = 35) := hg
  have hgr := gg_g hg
  obtain ⟨⟨kg, -⟩, ⟨kb, ka, k3, k4, k5, k6, -⟩, pb, -⟩ := fx_g c.2.2.1 hgr
  have G := gm_of c hgr
  have F : FR (fun a => a = g) S S' := fr_I e
  have T' : ZT S' := e.symm ▸ zt_W c.1 kg (by decide) rfl
  have K' : zK S' = zK S := by rw [e]; rfl
  have B' : zB S' = zB S := by rw [e]; rfl
  have P' : zP S' = zP S := by rw [e]; rfl
  have Z' : TZ S' := tz_x c.1 c.2.1 (fun a _ => by rw [K']) (fun a i _ _ => by rw [P']) (fun a _ => by rw [B']) (fun a ha => by
    have ne : a ≠ g := fun ea => by rw [ea, kg] at ha; omega
    rw [e, zI_b ne, zI_b ne, zI_b ne]
    exact ⟨rfl, rfl, rfl⟩) (fun a _ => by rw [e, zI_j (by decide)])
  have C' : CG S' := cg_w c T' Z' F (by omega) (by omega) (by omega) (by omega)
  have k23 := l.2.1.1
  refine ⟨⟨C', ⟨hg, hX, fr_t hF0 (fr_m F (fun a _ ea => by rw [ea]; exact kp_fix c hg hF0 hX (by omega)))⟩, ⟨lw_nd l T' F (by omega) (by omega), hpN, by rw [P']; exact p3⟩, ⟨trc_g c hgr tr (by rw [e, zI_j (by decide)]) (fun a ha hne => fr_e F (tc_lt c hgr ha) hne), hw, h0⟩, bo_fr bo F (by omega) (by omega), tgk_fr c hgr tg F (by rw [e, zI_j (by decide)]) (by omega) (fun i t ht => ?_), lb⟩, by rw [e, zI_self]⟩
  have := (G.2 i t ht).1
  omega
/-- the class's end of a game -/
theorem p_readEnd (h : MSt S0 S g g' ch N p st L T) (hf : d_X2_readEnd 23 S = some o) : (AGr L (rsV ch p) ∧ blk ch (p + rsN (rsV ch p)) = N ∧ o.1.toInt = 1 ∧ MSt S0 o.2 g g' ch N N st L T ∧ (zI o.2 6 g).toInt = rsV ch p) ∨ (¬ (AGr L (rsV ch p) ∧ blk ch (p + rsN (rsV ch p)) = N) ∧ o.1.toInt = 0 ∧ HSn S0 o.2 g') := by
  have hf : d_X2_readEnd_0 23 S = some o := hf
  obtain ⟨c, ⟨hg, hX, hF0⟩, ⟨l, hpN, p3⟩, -, -, tg, lb⟩ := id h
  have hb : (g = 35 ∧ g' = 99) ∨ (g = 99 ∧ g' = 35) := hg
  have hgr := gg_g hg
  obtain ⟨-, ⟨k23, p2, k2⟩, ⟨hc, hN, hn⟩, hcb, h4, hp⟩ := id l
  have z0 : (0 : Int32).toInt = 0 := rfl
  have nb := rsN_b (rsV ch p)
  unfold d_X2_readEnd_0 at hf
  obtain ⟨-, hf⟩ := m_chkE hf
  obtain ⟨r1, h_r1, hf⟩ := m_calR hf (fun _ h => ro_X2_resultHere h)
  dsimp only at hf
  obtain ⟨-, q1⟩ := p_resultHere l h_r1
  dsimp only at q1
  obtain ⟨-, hf⟩ := m_chkE hf
  obtain ⟨-, hf⟩ := m_chkE hf
  replace hf := m_calY hf p3
  obtain ⟨-, hf⟩ := m_chkE hf
  obtain ⟨⟨r4, S5⟩, h_r4, hf⟩ := m_cal2E hf
  dsimp only at hf
  obtain ⟨e5, b4, q4⟩ := p_agrees c.1 (tgk_c c hgr tg) lb h_r4
  dsimp only at e5 b4 q4
  rw [q1] at q4
  rw [e5] at hf
  rcases m_ifE hf with ⟨c1, hf⟩ | ⟨c1, hf⟩
  · skip
    replace c1 := ti_eqP (a := r4) (b := (0 : Int32)) c1 rfl (show (0 : Int32).toInt = 0 from rfl)
    obtain ⟨-, hf⟩ := m_chkE hf
    obtain ⟨-, hf⟩ := m_chkE hf
    obtain ⟨⟨r18, S18c⟩, h_r18, hf⟩ := m_calE hf
    dsimp only at hf
    obtain ⟨g1, g2, g3⟩ := hn_no (x1 := 9) (ms_n h) hg hX (by decide) (by omega) l h_r18
    dsimp only at g1 g2 g3
    obtain ⟨-, hf⟩ := m_chkE hf
    obtain ⟨-, hf⟩ := m_chkE hf
    cases hf
    try dsimp only
    refine Or.inr ⟨fun hh => ?_, g1, g2⟩
    have := q4.2 hh.1
    omega
  · skip
    replace c1 := ti_eqN (a := r4) (b := (0 : Int32)) c1 rfl (show (0 : Int32).toInt = 0 from rfl)
    obtain ⟨-, hf⟩ := m_chkE hf
    replace hf := m_calY hf p3
    obtain ⟨-, hf⟩ := m_chkE hf
    obtain ⟨S9, e_S9, hf⟩ := m_bndE hf
    obtain ⟨M9, i9⟩ := ms_6 h e_S9
    have l9 := M9.2.2.1.1
    have h49 := l9.2.2.2.2.1
    obtain ⟨-, hf⟩ := m_chkE hf
    obtain ⟨r10, h_r10, hf⟩ := m_calR hf (fun _ h => ro_X11_resultSign h)
    dsimp only at hf
    obtain ⟨q10, -⟩ := p_resultSign h_r10
    dsimp only at q10
    rw [q10] at hf
    obtain ⟨-, hf⟩ := m_chkE hf
    obtain ⟨-, hf⟩ := m_chkE hf
    obtain ⟨r11, h_r11, hf⟩ := m_calR hf (fun _ h => ro_J0_length_8abf5 h)
    dsimp only at hf
    have p_r11 := pc_J0_length_8abf5 h_r11
    dsimp only at p_r11
    have q11 : r11.toInt = rsN (rsV ch p) := by rw [p_r11.2, q1]; rfl
    obtain ⟨-, hf⟩ := m_chkE hf
    obtain ⟨v12, e_v12, hf⟩ := m_bndE hf
    have t_v12 : v12.toInt = (zI S9 4 23).toInt + r11.toInt := ti_add e_v12 rfl rfl (by omega) (by omega)
    obtain ⟨-, hf⟩ := m_chkE hf
    obtain ⟨S13, e_S13, hf⟩ := m_bndE hf
    have l13 : LW S13 ch N (p + rsN (rsV ch p)) := lw_at l9 e_S13 (by omega) (by omega)
    obtain ⟨-, hf⟩ := m_chkE hf
    obtain ⟨⟨r14, S14c⟩, h_r14, hf⟩ := m_calE hf
    dsimp only at hf
    obtain ⟨b1, b2, b3, b4'⟩ := lw_bl l13 h_r14
    dsimp only at b2 b3
    have b11 := b1.1
    have F14 : FR (fun a => a = 23) S9 S14c := fr_t (fr_I e_S13) b3
    have p214 := b2.2.1.2.1
    have h414 := b2.2.2.2.2.1
    have hN14 := b2.2.2.1.2.1
    have i614 : zI S14c 6 g = r1 := by
      rw [(fr_e F14 (fx_l M9.1.2.2.1 (by omega) (by omega)) (show ¬ g = 23 by omega)).2.2.1]
      exact i9
    obtain ⟨-, hf⟩ := m_chkE hf
    obtain ⟨-, hf⟩ := m_chkE hf
    obtain ⟨-, hf⟩ := m_chkE hf
    replace hf := m_calY hf p214
    obtain ⟨-, hf⟩ := m_chkE hf
    obtain ⟨r16, h_r16, hf⟩ := m_calR hf (fun _ h => ro_X6_size h)
    dsimp only at hf
    have p_r16 := pc_X6_size h_r16
    dsimp only at p_r16
    have q16 : r16.toInt = N := by rw [p_r16]; exact hN14
    obtain ⟨-, hf⟩ := m_chkE hf
    rcases m_ifE hf with ⟨c2, hf⟩ | ⟨c2, hf⟩
    · skip
      replace c2 := ti_eqP (a := (zI S14c 4 23)) (b := r16) c2 rfl rfl
      unfold d_X2_readEnd_81 d_X2_readEnd_86 at hf
      obtain ⟨-, hf⟩ := m_chkE hf
      cases hf
      have eN : blk ch (p + rsN (rsV ch p)) = N := by omega
      rw [eN] at b2
      exact Or.inl ⟨q4.1 (by omega), eN, rfl, ms_rd M9 b2 (Int.le_refl _) F14 (fun a ha => by unfold WRd; omega), by show (zI S14c 6 g).toInt = _; rw [i614]; exact q1⟩
    · skip
      replace c2 := ti_eqN (a := (zI S14c 4 23)) (b := r16) c2 rfl rfl
      obtain ⟨-, hf⟩ := m_chkE hf
      obtain ⟨-, hf⟩ := m_chkE hf
      obtain ⟨⟨r17, S17c⟩, h_r17, hf⟩ := m_calE hf
      dsimp only at hf
      obtain ⟨g1, g2, g3⟩ := hn_no (x1 := 1) (hn_rd (ms_n M9) hg hX b2.1 F14 (fun a ha => by unfold WRd; omega)) hg hX (by decide) (by omega) b2 h_r17
      dsimp only at g1 g2 g3
      obtain ⟨-, hf⟩ := m_chkE hf
      rcases m_ifE hf with ⟨c3, hf⟩ | ⟨c3, hf⟩
      · skip
        replace c3 := ti_eqP (a := r17) (b := (0 : Int32)) c3 rfl (show (0 : Int32).toInt = 0 from rfl)
        unfold d_X2_readEnd_86 at hf
        obtain ⟨-, hf⟩ := m_chkE hf
        cases hf
        exact Or.inr ⟨fun hh => by have := hh.2; omega, rfl, g2⟩
      · skip
        replace c3 := ti_eqN (a := r17) (b := (0 : Int32)) c3 rfl (show (0 : Int32).toInt = 0 from rfl)
        omega
/-- a text read: tags, first position, tree, result -/
noncomputable def rdP (ch : Int → Int) (N : Int) : Option (List (List Int × List Int) × PO × TRa × Int) :=
  match hdP ch N 9 (blk ch 0) [] st00 with
  | none => none
  | some r => match rmkP ch N 2001 (blk ch r.1) [] with
    | none => none
    | some (e, w) => match mach ch N r.2.2 2001 e [(0, 0)] (rkT T00 0 w) with
      | none => none
      | some (e2, T') => @ite _ (AGr r.2.1 (rsV ch e2) ∧ blk ch (e2 + rsN (rsV ch e2)) = N) (Classical.propDecidable _) (some (r.2.1, r.2.2, T', rsV ch e2)) none
end RDE
