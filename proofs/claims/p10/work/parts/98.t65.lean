section RMC
variable {S0 S S' : ZS} {g g' d ro la : Nat} {rest : List (Nat × Nat)} {ch : Int → Int} {N p q : Int} {st : PO} {T : TRa} {o : Int32 × ZS} {x1 : Int32}
/-- how the class's move ends -/
noncomputable def MVo (S0 : ZS) (g g' : Nat) (ch : Int → Int) (N : Int) (st : PO) (ro : Nat) (rest : List (Nat × Nat)) (n : Nat) (z : Option (Int × TRa)) (o : Int32 × ZS) : Prop := (∃ e T', z = some (e, T') ∧ o.1.toInt = 1 ∧ CSt S0 o.2 g g' ch N e st T' ∧ SKs o.2 st T' ((ro, n + 1) :: rest)) ∨ (z = none ∧ o.1.toInt = 0 ∧ CSn S0 o.2 g g')
theorem mvo_no {x t0 : Int32} {z : Option (Int × TRa)} (h : CSt S0 S g g' ch N p st T) (hz : z = none) (hx : 0 ≤ x.toInt ∧ x.toInt ≤ 100000) (ht : 0 ≤ t0.toInt ∧ t0.toInt ≤ 10) (hf : f_X2_refuse 23 t0 x S = some o) : MVo S0 g g' ch N st ro rest (tn T) z o := by
  obtain ⟨b1, b2, b3⟩ := lw_no h.2.2.1 ht hx hf
  exact Or.inr ⟨hz, b1, cn_rd (cs_n h) h.2.1.1 h.2.1.2.1 b2.1 b3 (fun a e => by unfold WRd; omega)⟩
theorem rm_37 (h : CSt S0 S g g' ch N q st T) (hs : SKs S st T ((ro, la) :: rest)) (hd : rest.length = d) (hd6 : d ≤ 6) (hx : x1.toInt = (d : Int)) (hnu : nuP ch (onb (posT st T la)) p = some q) (hf : d_X2_readMove_37 23 x1 (51 + 4 * d) S = some o) : MVo S0 g g' ch N st ro rest (tn T) (mvP ch N st T la p) o := by
  obtain ⟨c, ⟨hg, hX, hF0⟩, l, hqN, p3, tr, ⟨hw, hl⟩, i5⟩ := id h
  obtain ⟨hT, ⟨k23, p2, k2⟩, ⟨hc, hN1, hn⟩, hcb, h44, hq0⟩ := id l
  have hgr := gg_g hg
  have hgb : (g = 35 ∧ g' = 99) ∨ (g = 99 ∧ g' = 35) := hg
  have xn : x1.toNatClampNeg = d := cl_n hx
  have h300 := hw.1
  obtain ⟨⟨⟨s1, s2⟩, ⟨s3, s4⟩, s5, s6⟩, srest⟩ := id hs
  rw [hd] at s1 s2 s5 s6
  obtain ⟨pg, nb1, nb2⟩ := lt_pg hw hl la s4
  unfold d_X2_readMove_37 at hf
  obtain ⟨-, hf⟩ := m_chkE hf
  replace hf := m_calY hf p2
  obtain ⟨-, hf⟩ := m_chkE hf
  obtain ⟨-, hf⟩ := m_chkE hf
  obtain ⟨r2, h_r2, hf⟩ := m_calR hf (fun _ h => ro_X6_at h)
  dsimp only at hf
  have p_r2 := pc_X6_at h_r2
  dsimp only at p_r2
  rw [hc, h44] at p_r2
  obtain ⟨-, hf⟩ := m_chkE hf
  obtain ⟨r3, h_r3, hf⟩ := m_calR hf (fun _ h => ro_X11_isLetter h)
  dsimp only at hf
  have p_r3 := pc_X11_isLetter h_r3
  dsimp only at p_r3
  rw [p_r2] at p_r3
  obtain ⟨-, hf⟩ := m_chkE hf
  rcases m_ifE hf with ⟨c1, hf⟩ | ⟨c1, hf⟩
  · skip
    replace c1 := ti_eqP (a := r3) (b := (0 : Int32)) c1 rfl (show (0 : Int32).toInt = 0 from rfl)
    obtain ⟨-, hf⟩ := m_chkE hf
    obtain ⟨-, hf⟩ := m_chkE hf
    obtain ⟨⟨r42, S42c⟩, h_r42, hf⟩ := m_calE hf
    dsimp only at hf
    have gg := mvo_no (ro := ro) (rest := rest) (t0 := 1) h (mv_2 (N := N) hnu (fun g => by have := p_r3.2.2 g; omega)) (by omega) (by decide) h_r42
    obtain ⟨-, hf⟩ := m_chkE hf
    obtain ⟨-, hf⟩ := m_chkE hf
    cases hf
    try dsimp only
    exact gg
  · skip
    replace c1 := ti_eqN (a := r3) (b := (0 : Int32)) c1 rfl (show (0 : Int32).toInt = 0 from rfl)
    obtain ⟨-, hf⟩ := m_chkE hf
    obtain ⟨-, hf⟩ := m_chkE hf
    obtain ⟨⟨r4, S4c⟩, h_r4, hf⟩ := m_calE hf
    dsimp only at hf
    have hL := p_r3.2.1 (by omega)
    obtain ⟨g1, L4, F4, g4⟩ := p_skipSigns l hqN h_r4
    dsimp only at L4 F4
    have C4 := cs_rd h L4 g4 F4 (fun a e => by unfold WRd; omega)
    have SK4 := sks_0 c F4 (fun a ha e => by omega) _ (by show rest.length + 1 ≤ 7; omega) hs
    have p02 : zP S4c 0 23 = some 24 := fx_p C4.1.2.2.1 (by decide)
    have p22 := L4.2.1.2.1
    obtain ⟨-, hf⟩ := m_chkE hf
    obtain ⟨-, hf⟩ := m_chkE hf
    replace hf := m_calY hf p02
    obtain ⟨-, hf⟩ := m_chkE hf
    replace hf := m_calY hf p22
    obtain ⟨-, hf⟩ := m_chkE hf
    obtain ⟨-, hf⟩ := m_chkE hf
    obtain ⟨⟨r8, S9⟩, h_r8, hf⟩ := m_cal2E hf
    dsimp only at hf
    obtain ⟨⟨-, -, b4, -⟩, -⟩ := id SK4
    rw [hd] at b4
    have sr := srr_of C4.1 b4 pg ⟨by omega, by omega⟩ (by omega)
    have i44 := L4.2.2.2.2.1
    have i44b := L4.2.2.2.2.2
    obtain ⟨-, m2, m3⟩ := p_matched (ko := oko (posT st T la)) sr L4.2.1.2.2 (by decide) L4.2.2.1.1 hcb (by omega) (by omega) rfl pg.2.1 pg.2.2.2.2.2.2.1 pg.1 h_r8
    dsimp only at m2 m3
    rw [h44, i44] at m3
    obtain ⟨v1, v2⟩ := sgV_c pg (fun i i1 i2 e => by
      have := g1.2.1 i i1 i2
      rw [e] at this
      unfold isSg isL isD at this
      omega) m3
    have F9 := fr_mt m2 (fx_k C4.1.2.2.1 (by decide) (by decide))
    have T9 : ZT S9 := (ok_of (t_d_X8_matched (SZ := S4c) C4.1.1 (rp_0 S4c) (fx_k C4.1.2.2.1 (by decide) (by decide)) b4.1.1 L4.2.1.2.2 (by decide) (by omega) (by omega)) h_r8).1
    have W9 : ∀ a, (a = 24 ∨ a = 30 ∨ a = 26 ∨ a = 28 ∨ a = 26 + 1 ∨ a = 28 + 1 ∨ a = 31) → WRd a := fun a e => by unfold WRd; omega
    have L9 : LW S9 ch N (sgk ch q) := lw_nd L4 T9 F9 (by omega) (by omega)
    have C9 := cs_rd C4 L9 g4 F9 W9
    have SK9 := sks_0 C4.1 F9 (fun a ha e => by omega) _ (by show rest.length + 1 ≤ 7; omega) SK4
    have p39 := C9.2.2.2.2.1
    have p99 : zP S9 9 23 = some 46 := fx_p C9.1.2.2.1 (by decide)
    rcases m_ifE hf with ⟨c2, hf⟩ | ⟨c2, hf⟩
    · skip
      replace c2 := ti_leP (a := (0 : Int32)) (b := r8) c2 (show (0 : Int32).toInt = 0 from rfl) rfl
      obtain ⟨-, hf⟩ := m_chkE hf
      replace hf := m_calY hf p39
      obtain ⟨-, hf⟩ := m_chkE hf
      replace hf := m_calY hf p99
      obtain ⟨-, hf⟩ := m_chkE hf
      obtain ⟨-, hf⟩ := m_chkE hf
      obtain ⟨v14, e_v14, hf⟩ := m_bndE hf
      obtain ⟨⟨⟨-, z2⟩, -⟩, -⟩ := id SK9
      rw [hd] at z2
      have t14 : v14.toInt = (la : Int) := by rw [e_v14, xn]; exact z2
      obtain ⟨-, hf⟩ := m_chkE hf
      obtain ⟨r15, h_r15, hf⟩ := m_calR hf (fun _ h => ro_X1_childWith h)
      dsimp only at hf
      have q15 := p_childWith C9.1 hgr C9.2.2.2.2.2.1 h300 t14 s4 h_r15
      dsimp only at q15
      rw [v1] at q15
      have mb := (v2 (by omega)).1
      rw [v1] at mb
      obtain ⟨-, hf⟩ := m_chkE hf
      rcases m_ifE hf with ⟨c3, hf⟩ | ⟨c3, hf⟩
      · skip
        replace c3 := ti_eqP (a := r15) (b := (-1 : Int32)) c3 rfl (show (-1 : Int32).toInt = -1 from rfl)
        obtain ⟨-, hf⟩ := m_chkE hf
        replace hf := m_calY hf p39
        obtain ⟨-, hf⟩ := m_chkE hf
        replace hf := m_calY hf p99
        obtain ⟨-, hf⟩ := m_chkE hf
        obtain ⟨-, hf⟩ := m_chkE hf
        obtain ⟨v18, e_v18, hf⟩ := m_bndE hf
        have t18 : v18.toInt = (la : Int) := by rw [e_v18, xn]; exact z2
        obtain ⟨-, hf⟩ := m_chkE hf
        obtain ⟨⟨r20, S21⟩, h_r20, hf⟩ := m_cal2E hf
        dsimp only at hf
        have g20 := p_grow C9.1 hg hw C9.2.2.2.2.2.1 t18 s4 h_r20
        dsimp only at g20
        rw [v1] at g20
        rcases m_ifE hf with ⟨c4, hf⟩ | ⟨c4, hf⟩
        · skip
          replace c4 := ti_eqP (a := r20) (b := (-1 : Int32)) c4 rfl (show (-1 : Int32).toInt = -1 from rfl)
          obtain ⟨-, hf⟩ := m_chkE hf
          obtain ⟨⟨r40, S40c⟩, h_r40, hf⟩ := m_calE hf
          dsimp only at hf
          have n20 : S21 = S9 ∧ 300 ≤ tn T := by
            rcases g20 with ⟨-, a, b⟩ | ⟨-, a, -⟩
            · exact ⟨a, b⟩
            · omega
          rw [n20.1] at h_r40
          have gg := mvo_no (ro := ro) (rest := rest) (t0 := 8) C9 (mv_5 (N := N) hnu n20.2) (by omega) (by decide) h_r40
          obtain ⟨-, hf⟩ := m_chkE hf
          obtain ⟨-, hf⟩ := m_chkE hf
          cases hf
          try dsimp only
          exact gg
        · skip
          replace c4 := ti_eqN (a := r20) (b := (-1 : Int32)) c4 rfl (show (-1 : Int32).toInt = -1 from rfl)
          obtain ⟨lt, t20, C21, tr21, F21, i21⟩ : tn T < 300 ∧ r20.toInt = ((tn T + 1 : Nat) : Int) ∧ CG S21 ∧ TRc S21 g (grT T la (sgV (posT st T la) ch q (sgk ch q))) ∧ FR (TCl S9 g) S9 S21 ∧ ∀ j, j ≠ 3 → zI S21 j g = zI S9 j g := by
            rcases g20 with ⟨a, -⟩ | a
            · omega
            · exact a
          have vLG : LGo (posT st T la) (sgV (posT st T la) ch q (sgk ch q)) := by rw [← v1]; exact v2 (by omega)
          have wT := wt_gr hw s4 lt mb
          have lT := lt_gr hw hl s4 vLG
          have i5g := i21 5 (by decide)
          have L21 : LW S21 ch N (sgk ch q) := lw_nd L9 C21.1 F21 (tc_no C9.1 hgr (by decide) (by omega) (by omega) (by omega) (by omega)) (tc_no C9.1 hgr (by decide) (by omega) (by omega) (by omega) (by omega))
          have CS21 := cs_mk C9 C21 F21 (fun a _ ha => km_tc C9.1 hg C9.2.1.2.2 hX ha) i5g L21 g4 tr21 wT lT
          have SK21 := sks_T (T' := grT T la (sgV (posT st T la) ch q (sgk ch q))) hw (by show tn T ≤ tn T + 1; omega) (fun k hk => if_neg (show ¬ k = tn T + 1 by omega)) (fun k hk => if_neg (show ¬ k = tn T + 1 by omega)) _ (sks_0 C9.1 F21 (fun a ha => tc_no C9.1 hgr (by omega) (by omega) (by omega) (by omega) (by omega)) _ (by show rest.length + 1 ≤ 7; omega) SK9)
          have p921 : zP S21 9 23 = some 46 := fx_p C21.2.2.1 (by decide)
          have p321 : zP S21 3 23 = some g := CS21.2.2.2.2.1
          obtain ⟨⟨⟨w1, w2⟩, -, w5, -⟩, wrest⟩ := id SK21
          rw [hd] at w1 w2 w5
          obtain ⟨-, hf⟩ := m_chkE hf
          replace hf := m_calY hf p921
          obtain ⟨-, hf⟩ := m_chkE hf
          obtain ⟨-, hf⟩ := m_chkE hf
          obtain ⟨S25, e_S25, hf⟩ := m_bndE hf
          rw [xn] at e_S25
          have k46 : zK S21 46 = 14 := fx_k C21.2.2.1 (by decide) (by decide)
          have T25 : ZT S25 := e_S25.symm ▸ zt_A (a := 46) C21.1 k46
          have F25 : FR (fun a => a = 46) S21 S25 := fr_A C21.1 k46 e_S25
          have L25 : LW S25 ch N (sgk ch q) := lw_nd L21 T25 F25 (by decide) (by decide)
          have CS25 := cs_rd CS21 L25 g4 F25 (fun a e => by unfold WRd; omega)
          have a46 : ∀ i, i ≠ d → zA S25 46 i = zA S21 46 i := fun i hi => by
            rw [e_S25]
            show va_up (zA S21) 46 (upd (zA S21 46) d r20) 46 i = _
            rw [va_up_self, upd_ne hi]
          have a46d : zA S25 46 d = r20 := by
            rw [e_S25]
            show va_up (zA S21) 46 (upd (zA S21 46) d r20) 46 d = _
            rw [va_up_self, upd_self]
          have a45 : zA S25 45 = zA S21 45 := by
            rw [e_S25]
            show va_up (zA S21) 46 (upd (zA S21 46) d r20) 45 = _
            exact va_up_ne _ _ (by decide)
          have r25 := sks_fr (D := d) F25 (fun i hi => ⟨by omega, by omega, by omega, by omega⟩) (fun i hi => ⟨by rw [a45], a46 i (by omega)⟩) rest (by omega) wrest
          have b25 := bo_fr w5 F25 (by omega) (by omega)
          have p1025 : zP S25 10 23 = some 47 := fx_p CS25.1.2.2.1 (by decide)
          have z47 : zB S25 47 x1.toNatClampNeg = some (49+4*d) := by rw [xn]; exact (CS25.1.2.2.1.2.2.2.2.1 d (by omega)).1
          obtain ⟨-, hf⟩ := m_chkE hf
          replace hf := m_calY hf p1025
          obtain ⟨-, hf⟩ := m_chkE hf
          obtain ⟨-, hf⟩ := m_chkE hf
          replace hf := m_calY hf z47
          obtain ⟨-, hf⟩ := m_chkE hf
          obtain ⟨⟨r28, S28c⟩, h_r28, hf⟩ := m_calE hf
          dsimp only at hf
          have kb := fx_bk (2 * d) (by omega)
          have e49 : 49 + 2 * (2 * d) = 49 + 4 * d := by omega
          have e50 : 50 + 2 * (2 * d) = 50 + 4 * d := by omega
          rw [e49, e50] at kb
          have kb1 : zK S25 (49 + 4 * d) = 0 := (fx_k CS25.1.2.2.1 (by omega) (by omega)).trans kb.1
          have kb2 : zK S25 (49 + 4 * d + 1) = 14 := by
            rw [show 49 + 4 * d + 1 = 50 + 4 * d by omega]
            exact (fx_k CS25.1.2.2.1 (by omega) (by omega)).trans kb.2
          have pb : zP S25 0 (49 + 4 * d) = some (49 + 4 * d + 1) := by
            have := CS25.1.2.2.1.2.2.1 (2 * d) (by omega)
            rw [e49, e50] at this
            rw [this, show 49 + 4 * d + 1 = 50 + 4 * d by omega]
          obtain ⟨T28, F28, B28⟩ := bo_copy T25 kb1 pb kb2 b25 h_r28
          dsimp only at T28 F28 B28
          have L28 : LW S28c ch N (sgk ch q) := lw_nd L25 T28 F28 (by omega) (by omega)
          have CS28 := cs_rd CS25 L28 g4 F28 (fun a e => by unfold WRd; omega)
          have e45 : zA S28c 45 = zA S25 45 := (fr_e F28 (fx_l CS25.1.2.2.1 (by decide) (by decide)) (by omega)).2.2.2.2.2.1 (by rw [show zK S25 45 = 14 from fx_k CS25.1.2.2.1 (by decide) (by decide)]; decide)
          have e46 : zA S28c 46 = zA S25 46 := (fr_e F28 (fx_l CS25.1.2.2.1 (by decide) (by decide)) (by omega)).2.2.2.2.2.1 (by rw [show zK S25 46 = 14 from fx_k CS25.1.2.2.1 (by decide) (by decide)]; decide)
          have r28 := sks_fr (D := d) F28 (fun i hi => ⟨by omega, by omega, by omega, by omega⟩) (fun i hi => ⟨by rw [e45], by rw [e46]⟩) rest (by omega) r25
          have b28 := bo_fr b25 F28 (by omega) (by omega)
          obtain ⟨-, hf⟩ := m_chkE hf
          obtain ⟨-, hf⟩ := m_chkE hf
          obtain ⟨⟨r29, S29c⟩, h_r29, hf⟩ := m_calE hf
          dsimp only at hf
          have pgr : posT st (grT T la (sgV (posT st T la) ch q (sgk ch q))) la = posT st T la := posT_gr hw s4
          rw [pgr] at b28 B28
          obtain ⟨T29, F29, B29⟩ := bo_play T28 b28 pg (by rw [v1]; exact vLG) ⟨by omega, by omega⟩ h_r29
          dsimp only at T29 F29 B29
          rw [v1] at B29
          have L29 : LW S29c ch N (sgk ch q) := lw_nd L28 T29 F29 (by omega) (by omega)
          have CS29 := cs_rd CS28 L29 g4 F29 (fun a e => by unfold WRd; omega)
          have f45 : zA S29c 45 = zA S28c 45 := (fr_e F29 (fx_l CS28.1.2.2.1 (by decide) (by decide)) (by omega)).2.2.2.2.2.1 (by rw [show zK S28c 45 = 14 from fx_k CS28.1.2.2.1 (by decide) (by decide)]; decide)
          have f46 : zA S29c 46 = zA S28c 46 := (fr_e F29 (fx_l CS28.1.2.2.1 (by decide) (by decide)) (by omega)).2.2.2.2.2.1 (by rw [show zK S28c 46 = 14 from fx_k CS28.1.2.2.1 (by decide) (by decide)]; decide)
          have r29 := sks_fr (D := d) F29 (fun i hi => ⟨by omega, by omega, by omega, by omega⟩) (fun i hi => ⟨by rw [f45], by rw [f46]⟩) rest (by omega) r28
          have B49 := bo_fr B28 F29 (by omega) (by omega)
          have eP : tP (grT T la (sgV (posT st T la) ch q (sgk ch q))) (tn T + 1) = (la : Int) := if_pos rfl
          have SK29 : SKs S29c st (grT T la (sgV (posT st T la) ch q (sgk ch q))) ((ro, tn T + 1) :: rest) := by
            refine ⟨?_, r29⟩
            rw [hd]
            refine ⟨⟨by rw [f45, e45, a45]; exact w1, by rw [f46, e46, a46d]; exact t20⟩, ⟨by omega, Nat.le_refl _⟩, by rw [posT_g1 hw s4 lt mb]; exact B29, fun _ => ?_⟩
            rw [eP, Int.toNat_natCast, pgr]
            exact B49
          have p329 := CS29.2.2.2.2.1
          obtain ⟨-, hf⟩ := m_chkE hf
          obtain ⟨-, hf⟩ := m_chkE hf
          replace hf := m_calY hf p329
          obtain ⟨-, hf⟩ := m_chkE hf
          obtain ⟨r31, h_r31, hf⟩ := m_calR hf (fun _ h => ro_X1_at h)
          dsimp only at hf
          have q31 : r31 = nk S29c (g + 3) (g + 5) (tn T + 1) := by
            have := (p_at CS29.1 hgr CS29.2.2.2.2.2.1 (by omega) (by show r20.toInt ≤ ((tn T + 1 : Nat) : Int); omega) h_r31).2
            rw [t20] at this
            exact this
          obtain ⟨-, hf⟩ := m_chkE hf
          obtain ⟨-, hf⟩ := m_chkE hf
          obtain ⟨⟨r32, S32c⟩, h_r32, hf⟩ := m_calE hf
          dsimp only at hf
          rw [q31] at h_r32
          have g32 := cs_mm CS29 (Nat.le_refl (tn T + 1)) (show (if tn T + 1 = tn T + 1 then [] else tK T (tn T + 1)) = [] from if_pos rfl) h_r32
          dsimp only at g32
          have md := mv_6 (N := N) hnu hL (show ¬ sgV (posT st T la) ch q (sgk ch q) < 0 by omega) (by omega) (by omega)
          obtain ⟨-, hf⟩ := m_chkE hf
          rcases m_ifE hf with ⟨c5, hf⟩ | ⟨c5, hf⟩
          · skip
            replace c5 := ti_eqP (a := r32) (b := (0 : Int32)) c5 rfl (show (0 : Int32).toInt = 0 from rfl)
            unfold d_X2_readMove_233 d_X2_readMove_234 at hf
            obtain ⟨-, hf⟩ := m_chkE hf
            cases hf
            rcases g32 with ⟨e, K, a1, a2, -⟩ | ⟨a1, a2, a3⟩
            · omega
            · rw [md, a1]
              exact Or.inr ⟨rfl, rfl, a3⟩
          · skip
            replace c5 := ti_eqN (a := r32) (b := (0 : Int32)) c5 rfl (show (0 : Int32).toInt = 0 from rfl)
            obtain ⟨e2, K, a1, CS32, F32⟩ : ∃ e K, mkP ch (sgk ch q) = some (e, K) ∧ CSt S0 S32c g g' ch N e st (mkT (grT T la (sgV (posT st T la) ch q (sgk ch q))) (tn T + 1) K) ∧ FR (fun a => a = 23 ∨ a = nk S29c (g + 3) (g + 5) (tn T + 1)) S29c S32c := by
              rcases g32 with ⟨e, K, a1, -, a3, a4⟩ | ⟨-, a2, -⟩
              · exact ⟨e, K, a1, a3, a4⟩
              · omega
            have nn := fun a h1 h2 h3 h4 => (nk_ne CS29.1 hgr (tn T + 1) (a := a) h1 h2 h3 h4).1
            have SK32 := sks_T (T' := mkT (grT T la (sgV (posT st T la) ch q (sgk ch q))) (tn T + 1) K) wT (Nat.le_refl _) (fun _ _ => rfl) (fun _ _ => rfl) _ (sks_0 CS29.1 F32 (fun a ha e => by
              rcases e with e | e
              · omega
              · exact nn a (by omega) (by omega) (by omega) (by omega) e.symm) _ (by show rest.length + 1 ≤ 7; omega) SK29)
            have p332 := CS32.2.2.2.2.1
            obtain ⟨-, hf⟩ := m_chkE hf
            replace hf := m_calY hf p332
            obtain ⟨-, hf⟩ := m_chkE hf
            obtain ⟨r34, h_r34, hf⟩ := m_calR hf (fun _ h => ro_X1_at h)
            dsimp only at hf
            have q34 : r34 = nk S32c (g + 3) (g + 5) (tn T + 1) := by
              have := (p_at CS32.1 hgr CS32.2.2.2.2.2.1 (by omega) (by show r20.toInt ≤ ((tn T + 1 : Nat) : Int); omega) h_r34).2
              rw [t20] at this
              exact this
            obtain ⟨-, hf⟩ := m_chkE hf
            obtain ⟨-, hf⟩ := m_chkE hf
            obtain ⟨⟨r36, S37⟩, h_r36, hf⟩ := m_cal2E hf
            dsimp only at hf
            rw [q34] at h_r36
            have g36 := cs_rk CS32 (Nat.le_refl (tn T + 1)) h_r36
            dsimp only at g36
            have eR : tR (mkT (grT T la (sgV (posT st T la) ch q (sgk ch q))) (tn T + 1) K) (tn T + 1) = [] := if_pos rfl
            rw [eR] at g36
            rcases m_ifE hf with ⟨c6, hf⟩ | ⟨c6, hf⟩
            · skip
              replace c6 := ti_eqP (a := r36) (b := (0 : Int32)) c6 rfl (show (0 : Int32).toInt = 0 from rfl)
              unfold d_X2_readMove_233 d_X2_readMove_234 at hf
              obtain ⟨-, hf⟩ := m_chkE hf
              cases hf
              rcases g36 with ⟨e, w, b1, b2, -⟩ | ⟨b1, b2, b3⟩
              · omega
              · rw [md, a1]
                show MVo S0 g g' ch N st ro rest (tn T) (match rmkP ch N 2001 (blk ch e2) [] with | none => none | some (e3, w) => some (e3, _)) _
                rw [b1]
                exact Or.inr ⟨rfl, rfl, b3⟩
            · skip
              replace c6 := ti_eqN (a := r36) (b := (0 : Int32)) c6 rfl (show (0 : Int32).toInt = 0 from rfl)
              unfold d_X2_readMove_234 at hf
              obtain ⟨-, hf⟩ := m_chkE hf
              cases hf
              obtain ⟨e3, w, b1, CS37, F37⟩ : ∃ e w, rmkP ch N 2001 (blk ch e2) [] = some (e, w) ∧ CSt S0 S37 g g' ch N e st (rkT (mkT (grT T la (sgV (posT st T la) ch q (sgk ch q))) (tn T + 1) K) (tn T + 1) w) ∧ FR (fun a => a = 23 ∨ a = nk S32c (g + 3) (g + 5) (tn T + 1) + 1) S32c S37 := by
                rcases g36 with ⟨e, w, b1, -, b3, b4⟩ | ⟨-, b2, -⟩
                · exact ⟨e, w, b1, b3, b4⟩
                · omega
              have nn2 := fun a h1 h2 h3 h4 => (nk_ne CS32.1 hgr (tn T + 1) (a := a) h1 h2 h3 h4).2
              have SK37 := sks_T (T' := rkT (mkT (grT T la (sgV (posT st T la) ch q (sgk ch q))) (tn T + 1) K) (tn T + 1) w) CS32.2.2.2.2.2.2.1.1 (Nat.le_refl _) (fun _ _ => rfl) (fun _ _ => rfl) _ (sks_0 CS32.1 F37 (fun a ha e => by
                rcases e with e | e
                · omega
                · exact nn2 a (by omega) (by omega) (by omega) (by omega) e.symm) _ (by show rest.length + 1 ≤ 7; omega) SK32)
              rw [md, a1]
              show MVo S0 g g' ch N st ro rest (tn T) (match rmkP ch N 2001 (blk ch e2) [] with | none => none | some (e3, w) => some (e3, rkT (mkT (grT T la (sgV (posT st T la) ch q (sgk ch q))) (tn T + 1) K) (tn T + 1) w)) _
              rw [b1]
              exact Or.inl ⟨e3, _, rfl, rfl, CS37, SK37⟩
      · skip
        replace c3 := ti_eqN (a := r15) (b := (-1 : Int32)) c3 rfl (show (-1 : Int32).toInt = -1 from rfl)
        obtain ⟨-, hf⟩ := m_chkE hf
        obtain ⟨⟨r41, S41c⟩, h_r41, hf⟩ := m_calE hf
        dsimp only at hf
        have gg := mvo_no (ro := ro) (rest := rest) (t0 := 6) C9 (mv_4 (N := N) hnu (by omega)) (by omega) (by decide) h_r41
        obtain ⟨-, hf⟩ := m_chkE hf
        obtain ⟨-, hf⟩ := m_chkE hf
        cases hf
        try dsimp only
        exact gg
    · skip
      replace c2 := ti_leN (a := (0 : Int32)) (b := r8) c2 (show (0 : Int32).toInt = 0 from rfl) rfl
      rcases m_ifE hf with ⟨c7, hf⟩ | ⟨c7, hf⟩
      · skip
        replace c7 := ti_eqP (a := r8) (b := (-2 : Int32)) c7 rfl (show (-2 : Int32).toInt = -2 from rfl)
        unfold d_X2_readMove_110 at hf
        obtain ⟨-, hf⟩ := m_chkE hf
        obtain ⟨⟨r9, S10⟩, h_r9, hf⟩ := m_calE hf
        dsimp only at hf
        obtain ⟨-, hf⟩ := m_chkE hf
        obtain ⟨-, hf⟩ := m_chkE hf
        cases hf
        exact mvo_no (t0 := 5) C9 (mv_3 hnu (by omega)) (by omega) (by decide) h_r9
      · skip
        replace c7 := ti_eqN (a := r8) (b := (-2 : Int32)) c7 rfl (show (-2 : Int32).toInt = -2 from rfl)
        unfold d_X2_readMove_110 at hf
        obtain ⟨-, hf⟩ := m_chkE hf
        obtain ⟨⟨r9, S10⟩, h_r9, hf⟩ := m_calE hf
        dsimp only at hf
        obtain ⟨-, hf⟩ := m_chkE hf
        obtain ⟨-, hf⟩ := m_chkE hf
        cases hf
        exact mvo_no (t0 := 4) C9 (mv_3 hnu (by omega)) (by omega) (by decide) h_r9
/-- the class reads a move -/
theorem p_readMove (h : CSt S0 S g g' ch N p st T) (hs : SKs S st T ((ro, la) :: rest)) (hd : rest.length = d) (hd6 : d ≤ 6) (hx : x1.toInt = (d : Int)) (hf : d_X2_readMove 23 x1 S = some o) : MVo S0 g g' ch N st ro rest (tn T) (mvP ch N st T la p) o := by
  have hf : d_X2_readMove_0 23 x1 S = some o := hf
  obtain ⟨c, ⟨hg, hX, hF0⟩, l, hpN, p3, tr, ⟨hw, hl⟩, i5⟩ := id h
  obtain ⟨hT, ⟨k23, p2, k2⟩, ⟨hc, hN1, hn⟩, hcb, h44, hq0⟩ := id l
  have xn : x1.toNatClampNeg = d := cl_n hx
  obtain ⟨⟨⟨s1, s2⟩, ⟨s3, s4⟩, s5, s6⟩, srest⟩ := id hs
  rw [hd] at s1 s2 s5 s6
  obtain ⟨pg, nb1, nb2⟩ := lt_pg hw hl la s4
  have h300 := hw.1
  have p11 : zP S 11 23 = some 48 := fx_p c.2.2.1 (by decide)
  have z48 : zB S 48 x1.toNatClampNeg = some (51+4*d) := by rw [xn]; exact (c.2.2.1.2.2.2.2.1 d (by omega)).2.1
  have i6 := s5.2.2.2.2.2.2.2
  unfold d_X2_readMove_0 at hf
  obtain ⟨-, hf⟩ := m_chkE hf
  replace hf := m_calY hf p11
  obtain ⟨-, hf⟩ := m_chkE hf
  obtain ⟨-, hf⟩ := m_chkE hf
  replace hf := m_calY hf z48
  obtain ⟨-, hf⟩ := m_chkE hf
  replace hf := m_calY hf p2
  obtain ⟨-, hf⟩ := m_chkE hf
  obtain ⟨-, hf⟩ := m_chkE hf
  obtain ⟨r4, h_r4, hf⟩ := m_calR hf (fun _ h => ro_X6_at h)
  dsimp only at hf
  have p_r4 := pc_X6_at h_r4
  dsimp only at p_r4
  rw [hc, h44] at p_r4
  obtain ⟨-, hf⟩ := m_chkE hf
  obtain ⟨r5, h_r5, hf⟩ := m_calR hf (fun _ h => ro_X11_isDigit h)
  dsimp only at hf
  have p_r5 := pc_X11_isDigit h_r5
  dsimp only at p_r5
  rw [p_r4] at p_r5
  unfold isD at p_r5
  obtain ⟨-, hf⟩ := m_chkE hf
  rcases m_ifE hf with ⟨c1, hf⟩ | ⟨c1, hf⟩
  · skip
    replace c1 := ti_eqP (a := r5) (b := (0 : Int32)) c1 rfl (show (0 : Int32).toInt = 0 from rfl)
    exact rm_37 h hs hd hd6 hx (if_neg (fun g => by have := p_r5.2.2 g; omega)) hf
  · skip
    replace c1 := ti_eqN (a := r5) (b := (0 : Int32)) c1 rfl (show (0 : Int32).toInt = 0 from rfl)
    obtain ⟨-, hf⟩ := m_chkE hf
    obtain ⟨-, hf⟩ := m_chkE hf
    obtain ⟨⟨r6, S6c⟩, h_r6, hf⟩ := m_calE hf
    dsimp only at hf
    have g6 := p_readNumber l hpN (p_r5.2.1 (by omega)) h_r6
    dsimp only at g6
    rw [i6] at g6
    obtain ⟨-, hf⟩ := m_chkE hf
    rcases m_ifE hf with ⟨c2, hf⟩ | ⟨c2, hf⟩
    · skip
      replace c2 := ti_eqP (a := r6) (b := (0 : Int32)) c2 rfl (show (0 : Int32).toInt = 0 from rfl)
      obtain ⟨-, hf⟩ := m_chkE hf
      cases hf
      try dsimp only
      rcases g6 with ⟨a1, -⟩ | ⟨a1, a2, ⟨p', a3⟩, a4⟩
      · omega
      · exact Or.inr ⟨mv_1 a2, rfl, cn_rd (cs_n h) hg hX a3.1 a4 (fun a e => by unfold WRd; omega)⟩
    · skip
      replace c2 := ti_eqN (a := r6) (b := (0 : Int32)) c2 rfl (show (0 : Int32).toInt = 0 from rfl)
      obtain ⟨e, a1, a2, a3, a4⟩ : ∃ e, nuP ch (onb (posT st T la)) p = some e ∧ LW S6c ch N e ∧ FR (fun a => a = 23) S S6c ∧ e ≤ N := by
        rcases g6 with ⟨-, e, a1, a2, a3, a4⟩ | ⟨a1, -⟩
        · exact ⟨e, a1, a2, a3, a4⟩
        · omega
      exact rm_37 (cs_rd h a2 a4 a3 (fun a e => by unfold WRd; omega)) (sks_0 c a3 (fun a ha e => by omega) _ (by show rest.length + 1 ≤ 7; omega) hs) hd hd6 hx a1 hf
end RMC
