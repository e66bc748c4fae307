section RPO
variable {I : Nat → Int32} {A : Nat → Nat → Int32} {b n p : Int} {V m : Int → Int} {o : Int32 × MS} {sd rt ps : Int}
/-- what the reference holds of a position that it has read -/
def RES (o : Int32 × MS) (m : Int → Int) (sd rt ps nb : Int) : Prop := mR o.2.2 = m ∧ (o.2.1 25).toInt = sd ∧ (o.2.1 26).toInt = rt ∧ (o.2.1 27).toInt = ps ∧ (o.2.1 29).toInt = nb
theorem rp_237 (hf : f_readPosition_237 I A = some o) : o.1.toInt = 0 := by
  unfold f_readPosition_237 at hf
  unfold f_readPosition_238 at hf
  rcases m_ifE hf with ⟨c, hf⟩ | ⟨c, hf⟩
  · unfold f_readPosition_252 at hf
    obtain ⟨I1, -, hf⟩ := m_bndE hf
    rcases m_ifE hf with ⟨c2, hf⟩ | ⟨c2, hf⟩
    · unfold f_readPosition_288 f_readPosition_289 at hf
      obtain ⟨-, hf⟩ := m_chkE hf
      cases hf
      rfl
    · exact absurd rfl c2
  · exact absurd rfl c
theorem rp_195 (hf : f_readPosition_195 I A = some o) : o.1.toInt = 0 := by
  unfold f_readPosition_195 at hf
  unfold f_readPosition_196 at hf
  rcases m_ifE hf with ⟨c, hf⟩ | ⟨c, hf⟩
  · unfold f_readPosition_210 at hf
    obtain ⟨I1, -, hf⟩ := m_bndE hf
    rcases m_ifE hf with ⟨c2, hf⟩ | ⟨c2, hf⟩
    · exact rp_237 hf
    · exact absurd rfl c2
  · exact absurd rfl c
theorem rp_0f (hf : f_readPosition_135 0 I A = some o) : o.1.toInt = 0 := by
  unfold f_readPosition_135 at hf
  obtain ⟨v1, -, hf⟩ := m_bndE hf
  obtain ⟨I2, -, hf⟩ := m_bndE hf
  rcases m_ifE hf with ⟨c2, hf⟩ | ⟨c2, hf⟩
  · exact rp_195 hf
  · exact absurd rfl c2
theorem rp_252n {t0 : Int32} (ht : t0.toInt ≤ 0) (hf : f_readPosition_252 1 t0 I A = some o) : o.1.toInt = 0 := by
  unfold f_readPosition_252 at hf
  obtain ⟨I1, e1, hf⟩ := m_bndE hf
  rcases m_ifE hf with ⟨c2, hf⟩ | ⟨c2, hf⟩
  · exact absurd c2 (by decide)
  · rcases m_ifE hf with ⟨c3, hf⟩ | ⟨c3, hf⟩
    · unfold f_readPosition_288 f_readPosition_289 at hf
      obtain ⟨-, hf⟩ := m_chkE hf
      cases hf
      rfl
    · rw [e1, upd_self] at c3
      replace c3 := ti_leN (a := t0) (b := (0 : Int32)) c3 rfl rfl
      have z0 : (0 : Int32).toInt = 0 := rfl
      omega
/-- a position's first four parts are read -/
def RP4 (I : Nat → Int32) (sd rt ps : Int) : Prop := (I 25).toInt = sd ∧ (sd = 0 ∨ sd = 1) ∧ (I 26).toInt = rt ∧ (0 ≤ rt ∧ rt ≤ 15) ∧ (I 27).toInt = ps ∧ (-1 ≤ ps ∧ ps ≤ 63)
theorem rp_252 {t0 : Int32} (hJ : VJ I A b n V p m) (h4 : RP4 I sd rt ps) (htb : -1 ≤ t0.toInt ∧ t0.toInt ≤ 999) (hf : f_readPosition_252 1 t0 I A = some o) : (o.1.toInt = 1 ∧ (0 < t0.toInt ∧ p = n ∧ SNDp m sd rt ps) ∧ RES o m sd rt ps t0.toInt) ∨ (o.1.toInt = 0 ∧ ¬ (0 < t0.toInt ∧ p = n ∧ SNDp m sd rt ps)) := by
  have z0 : (0 : Int32).toInt = 0 := rfl
  have no : ∀ I1, ¬ (0 < t0.toInt ∧ p = n ∧ SNDp m sd rt ps) → f_readPosition_288 I1 A = some o → (o.1.toInt = 1 ∧ (0 < t0.toInt ∧ p = n ∧ SNDp m sd rt ps) ∧ RES o m sd rt ps t0.toInt) ∨ (o.1.toInt = 0 ∧ ¬ (0 < t0.toInt ∧ p = n ∧ SNDp m sd rt ps)) := fun I1 hn hf => by
    unfold f_readPosition_288 f_readPosition_289 at hf
    obtain ⟨-, hf⟩ := m_chkE hf
    cases hf
    exact Or.inr ⟨rfl, hn⟩
  obtain ⟨h25, hs, h26, hr, h27, hp⟩ := h4
  unfold f_readPosition_252 at hf
  obtain ⟨I1, e1, hf⟩ := m_bndE hf
  have J1 : VJ I1 A b n V p m := vj_w hJ e1 (show (-1 : Int) ≤ _ by omega) (show _ ≤ (2000 : Int) by omega) (by decide) (by decide)
  have h29 : I1 29 = t0 := by rw [e1, upd_self]
  have f25 : I1 25 = I 25 := by rw [e1, upd_ne (by decide)]
  have f26 : I1 26 = I 26 := by rw [e1, upd_ne (by decide)]
  have f27 : I1 27 = I 27 := by rw [e1, upd_ne (by decide)]
  have h38 := J1.2.2.2.1
  have h39 := J1.2.2.2.2.1
  rcases m_ifE hf with ⟨c2, hf⟩ | ⟨c2, hf⟩
  · exact absurd c2 (by decide)
  · rcases m_ifE hf with ⟨c3, hf⟩ | ⟨c3, hf⟩
    · rw [h29] at c3
      replace c3 := ti_leP (a := t0) (b := (0 : Int32)) c3 rfl rfl
      exact no I1 (fun g => by have := g.1; omega) hf
    · rw [h29] at c3
      replace c3 := ti_leN (a := t0) (b := (0 : Int32)) c3 rfl rfl
      rcases m_ifE hf with ⟨c4, hf⟩ | ⟨c4, hf⟩
      · replace c4 := ti_eqP (a := I1 38) (b := I1 39) c4 rfl rfl
        obtain ⟨r2, h_r2, hf⟩ := m_clR hf (fun _ h => rro_mayStand h)
        obtain ⟨g1, g2⟩ := v_mayStand (m := m) (sd := sd) (rt := rt) (ps := ps) ⟨J1.1, J1.2.1, J1.2.2.2.2.2.2.2.2.1, J1.2.2.2.2.2.2.2.2.2, by rw [f25]; exact h25, hs, by rw [f26]; exact h26, hr, by rw [f27]; exact h27, hp⟩ h_r2
        dsimp only at g1 g2
        rcases m_ifE hf with ⟨c5, hf⟩ | ⟨c5, hf⟩
        · replace c5 := ti_eqP (a := r2) (b := (0 : Int32)) c5 rfl rfl
          exact no I1 (fun g => by have := g2.2 g.2.2; omega) hf
        · replace c5 := ti_eqN (a := r2) (b := (0 : Int32)) c5 rfl rfl
          unfold f_readPosition_289 at hf
          obtain ⟨-, hf⟩ := m_chkE hf
          cases hf
          refine Or.inl ⟨rfl, ⟨by omega, by omega, g2.1 (by omega)⟩, J1.2.2.2.2.2.2.2.2.1, ?_, ?_, ?_, ?_⟩
          · show (I1 25).toInt = sd; rw [f25]; exact h25
          · show (I1 26).toInt = rt; rw [f26]; exact h26
          · show (I1 27).toInt = ps; rw [f27]; exact h27
          · show (I1 29).toInt = t0.toInt; rw [h29]
      · replace c4 := ti_eqN (a := I1 38) (b := I1 39) c4 rfl rfl
        exact no I1 (fun g => by have := g.2.1; omega) hf
theorem num_b : -1 ≤ numC V p ∧ numC V p ≤ 999 := by
  unfold numC
  split
  · decide
  · have b3 := nd3_b (V := V) (p := p)
    have g := val3_b (V := V) (p := p) (k := nd3 V p) b3 (fun j j0 j1 => by
      unfold nd3 at j1
      by_cases a : 48 ≤ V p ∧ V p ≤ 57
      · rw [if_pos a] at j1
        by_cases e0 : j = 0
        · rw [e0, Int.add_zero]; exact a
        · by_cases c : 48 ≤ V (p + 1) ∧ V (p + 1) ≤ 57
          · rw [if_pos c] at j1
            by_cases e1 : j = 1
            · rw [e1]; exact c
            · by_cases d : 48 ≤ V (p + 2) ∧ V (p + 2) ≤ 57
              · rw [if_pos d] at j1
                have e2 : j = 2 := by omega
                rw [e2]; exact d
              · rw [if_neg d] at j1; omega
          · rw [if_neg c] at j1; omega
      · rw [if_neg a] at j1; omega)
    omega
theorem rp_238 (hJ : VJ I A b n V p m) (hp : p ≤ 900) (h4 : RP4 I sd rt ps) (hf : f_readPosition_238 1 I A = some o) : (o.1.toInt = 1 ∧ (0 < numC V p ∧ p + nd3 V p = n ∧ SNDp m sd rt ps) ∧ RES o m sd rt ps (numC V p)) ∨ (o.1.toInt = 0 ∧ ¬ (0 < numC V p ∧ p + nd3 V p = n ∧ SNDp m sd rt ps)) := by
  unfold f_readPosition_238 at hf
  rcases m_ifE hf with ⟨c, hf⟩ | ⟨c, hf⟩
  · exact absurd c (by decide)
  · obtain ⟨⟨r1, I1, A1⟩, h_r1, hf⟩ := m_clE hf
    dsimp only at hf
    have F := (fw_readNumber h_r1).1
    dsimp only at F
    have nb := num_b (V := V) (p := p)
    rcases v_number hp hJ h_r1 with ⟨a1, a2, a3, a4⟩ | ⟨-, a2, a3⟩
    · dsimp only at a4
      refine Or.inr ⟨rp_252n (by omega) hf, fun g => ?_⟩
      have e := hJ.2.2.2.2.2.2.1 (p + 3) (by have := hJ.2.2.2.2.2.1; omega)
      unfold vR at e
      rw [if_neg (by have := g.2.1; omega)] at e
      omega
    · dsimp only at a2 a3
      have g := rp_252 a3 (sd := sd) (rt := rt) (ps := ps) (by
        unfold RP4
        rw [F 25 (by decide), F 26 (by decide), F 27 (by decide)]
        exact h4) (by omega) hf
      rw [a2] at g
      exact g
theorem rp_196 (hJ : VJ I A b n V p m) (hp : p ≤ 800) (h4 : RP4 I sd rt ps) (hf : f_readPosition_196 1 I A = some o) : (o.1.toInt = 1 ∧ ∃ nb, FEN4 V n m sd rt ps nb p ∧ RES o m sd rt ps nb) ∨ (o.1.toInt = 0 ∧ ∀ nb, ¬ FEN4 V n m sd rt ps nb p) := by
  have z0 : (0 : Int32).toInt = 0 := rfl
  have z32 : (32 : Int32).toInt = 32 := rfl
  unfold f_readPosition_196 at hf
  rcases m_ifE hf with ⟨c, hf⟩ | ⟨c, hf⟩
  · exact absurd c (by decide)
  · obtain ⟨⟨r1, I1, A1⟩, h_r1, hf⟩ := m_clE hf
    dsimp only at hf
    have F := (fw_readNumber h_r1).1
    dsimp only at F
    have b3 := nd3_b (V := V) (p := p)
    unfold f_readPosition_210 at hf
    obtain ⟨I2, e2, hf⟩ := m_bndE hf
    have h28 : I2 28 = r1 := by rw [e2, upd_self]
    rw [h28] at hf
    rcases m_ifE hf with ⟨c1, hf⟩ | ⟨c1, hf⟩
    · exact absurd c1 (by decide)
    · rcases v_number (by omega) hJ h_r1 with ⟨a1, a2, a3, a4⟩ | ⟨-, a2, a3⟩
      · dsimp only at a4
        rcases m_ifE hf with ⟨c2, hf⟩ | ⟨c2, hf⟩
        · refine Or.inr ⟨rp_237 hf, fun nb g => ?_⟩
          have := g.2.1
          rw [a1] at this
          omega
        · replace c2 := ti_ltN (a := r1) (b := (0 : Int32)) c2 rfl rfl
          omega
      · dsimp only at a2 a3
        rcases m_ifE hf with ⟨c2, hf⟩ | ⟨c2, hf⟩
        · replace c2 := ti_ltP (a := r1) (b := (0 : Int32)) c2 rfl rfl
          exact Or.inr ⟨rp_237 hf, fun nb g => by have := g.1; omega⟩
        · replace c2 := ti_ltN (a := r1) (b := (0 : Int32)) c2 rfl rfl
          have J2 : VJ I2 A1 b n V (p + nd3 V p) m := vj_w a3 e2 (tf_b _).1 (tf_b _).2 (by decide) (by decide)
          obtain ⟨⟨r3, I3, A3⟩, h_r3, hf⟩ := m_clE hf
          dsimp only at hf
          have F3 := (fw_pass h_r3).1
          dsimp only at F3
          obtain ⟨J3, b3', g3⟩ := v_pass J2 (by omega) h_r3
          dsimp only at J3 b3' g3
          rw [z32] at g3
          rcases m_ifE hf with ⟨c3, hf⟩ | ⟨c3, hf⟩
          · replace c3 := ti_eqP (a := r3) (b := (0 : Int32)) c3 rfl rfl
            exact Or.inr ⟨rp_237 hf, fun nb g => by have := g3.2 g.2.1; omega⟩
          · replace c3 := ti_eqN (a := r3) (b := (0 : Int32)) c3 rfl rfl
            have g := rp_238 J3 (by omega) (sd := sd) (rt := rt) (ps := ps) (by
              unfold RP4
              rw [F3 25 (by decide), F3 26 (by decide), F3 27 (by decide), e2, upd_ne (by decide), upd_ne (by decide), upd_ne (by decide), F 25 (by decide), F 26 (by decide), F 27 (by decide)]
              exact h4) hf
            rcases g with ⟨d1, d2, d3⟩ | ⟨d1, d2⟩
            · exact Or.inl ⟨d1, _, ⟨by omega, g3.1 (by omega), d2.1, rfl, d2.2.1, d2.2.2⟩, d3⟩
            · exact Or.inr ⟨d1, fun nb g => d2 ⟨g.2.2.1, g.2.2.2.2.1, g.2.2.2.2.2⟩⟩
theorem rp_135 (hJ : VJ I A b n V p m) (hp : p ≤ 700) (h25 : (I 25).toInt = sd) (hs : sd = 0 ∨ sd = 1) (hf : f_readPosition_135 1 I A = some o) : (o.1.toInt = 1 ∧ ∃ rt ps nb, (V (p + 1) = 32 ∧ FEN2 V n m sd rt ps nb (p + 2)) ∧ RES o m sd rt ps nb) ∨ (o.1.toInt = 0 ∧ ∀ rt ps nb, ¬ (V (p + 1) = 32 ∧ FEN2 V n m sd rt ps nb (p + 2))) := by
  have z0 : (0 : Int32).toInt = 0 := rfl
  have z1 : (1 : Int32).toInt = 1 := rfl
  have z32 : (32 : Int32).toInt = 32 := rfl
  have h38 := hJ.2.2.2.1
  have hb := hJ.2.2.1
  have hp0 := hJ.2.2.2.2.2.1
  unfold f_readPosition_135 at hf
  obtain ⟨v1, e_v1, hf⟩ := m_bndE hf
  have t_v1 : v1.toInt = (I 38).toInt + 1 := ti_add e_v1 rfl (show (1 : Int32).toInt = 1 from rfl) (by omega) (by omega)
  obtain ⟨I2, e_I2, hf⟩ := m_bndE hf
  have J2 : VJ I2 A b n V (p + 1) m := vj_at hJ e_I2 (by omega) (by omega)
  have f2 : I2 25 = I 25 := by rw [e_I2, upd_ne (by decide)]
  rcases m_ifE hf with ⟨c1, hf⟩ | ⟨c1, hf⟩
  · skip
    replace c1 := ti_eqP (a := (1 : Int32)) (b := (0 : Int32)) c1 (show (1 : Int32).toInt = 1 from rfl) (show (0 : Int32).toInt = 0 from rfl)
    exact absurd c1 (by decide)
  · skip
    replace c1 := ti_eqN (a := (1 : Int32)) (b := (0 : Int32)) c1 (show (1 : Int32).toInt = 1 from rfl) (show (0 : Int32).toInt = 0 from rfl)
    obtain ⟨⟨r3, Ic3, Ac3⟩, h_r3, hf⟩ := m_clE hf
    dsimp only at hf
    obtain ⟨J3, b3, g3⟩ := v_pass J2 (by omega) h_r3
    dsimp only at J3 b3 g3
    rw [z32] at g3
    have F3 := (fw_pass h_r3).1
    dsimp only at F3
    rw [show p + 1 + 1 = p + 2 by omega] at J3
    rcases m_ifE hf with ⟨c2, hf⟩ | ⟨c2, hf⟩
    · skip
      replace c2 := ti_eqP (a := r3) (b := (0 : Int32)) c2 rfl (show (0 : Int32).toInt = 0 from rfl)
      exact Or.inr ⟨rp_195 hf, fun rt ps nb g => by have := g3.2 g.1; omega⟩
    · skip
      replace c2 := ti_eqN (a := r3) (b := (0 : Int32)) c2 rfl (show (0 : Int32).toInt = 0 from rfl)
      obtain ⟨rg1, rg2, rg3, rg4⟩ := rg_rng (V := V) (p := p + 2)
      obtain ⟨⟨r4, Ic4, Ac4⟩, h_r4, hf⟩ := m_clE hf
      dsimp only at hf
      obtain ⟨b4, g4, J4, h426⟩ := v_rights J3 (by omega) h_r4
      dsimp only at b4 g4 J4 h426
      have F4 := (fw_readRights h_r4).1
      dsimp only at F4
      rcases m_ifE hf with ⟨c3, hf⟩ | ⟨c3, hf⟩
      · skip
        replace c3 := ti_eqP (a := r4) (b := (0 : Int32)) c3 rfl (show (0 : Int32).toInt = 0 from rfl)
        exact Or.inr ⟨rp_195 hf, fun rt ps nb g => by have := g4.2 g.2.1; omega⟩
      · skip
        replace c3 := ti_eqN (a := r4) (b := (0 : Int32)) c3 rfl (show (0 : Int32).toInt = 0 from rfl)
        obtain ⟨⟨r5, Ic5, Ac5⟩, h_r5, hf⟩ := m_clE hf
        dsimp only at hf
        obtain ⟨J5, b5, g5⟩ := v_pass J4 (by omega) h_r5
        dsimp only at J5 b5 g5
        rw [z32] at g5
        have F5 := (fw_pass h_r5).1
        dsimp only at F5
        rcases m_ifE hf with ⟨c4, hf⟩ | ⟨c4, hf⟩
        · skip
          replace c4 := ti_eqP (a := r5) (b := (0 : Int32)) c4 rfl (show (0 : Int32).toInt = 0 from rfl)
          exact Or.inr ⟨rp_195 hf, fun rt ps nb g => by have := g5.2 g.2.2.2.1; omega⟩
        · skip
          replace c4 := ti_eqN (a := r5) (b := (0 : Int32)) c4 rfl (show (0 : Int32).toInt = 0 from rfl)
          obtain ⟨ps1, ps2, ps3, ps4⟩ := ps_rng (V := V) (p := (rgV V (p + 2)).1 + 1)
          obtain ⟨⟨r6, Ic6, Ac6⟩, h_r6, hf⟩ := m_clE hf
          dsimp only at hf
          obtain ⟨b6, g6, J6, h627⟩ := v_passed J5 (by omega) h_r6
          dsimp only at b6 g6 J6 h627
          have F6 := (fw_readPassed h_r6).1
          dsimp only at F6
          rcases m_ifE hf with ⟨c5, hf⟩ | ⟨c5, hf⟩
          · skip
            replace c5 := ti_eqP (a := r6) (b := (0 : Int32)) c5 rfl (show (0 : Int32).toInt = 0 from rfl)
            exact Or.inr ⟨rp_195 hf, fun rt ps nb g => by have := g6.2 g.2.2.2.2.1; omega⟩
          · skip
            replace c5 := ti_eqN (a := r6) (b := (0 : Int32)) c5 rfl (show (0 : Int32).toInt = 0 from rfl)
            obtain ⟨⟨r7, Ic7, Ac7⟩, h_r7, hf⟩ := m_clE hf
            dsimp only at hf
            obtain ⟨J7, b7, g7⟩ := v_pass J6 (by omega) h_r7
            dsimp only at J7 b7 g7
            rw [z32] at g7
            have F7 := (fw_pass h_r7).1
            dsimp only at F7
            rcases m_ifE hf with ⟨c6, hf⟩ | ⟨c6, hf⟩
            · skip
              replace c6 := ti_eqP (a := r7) (b := (0 : Int32)) c6 rfl (show (0 : Int32).toInt = 0 from rfl)
              exact Or.inr ⟨rp_195 hf, fun rt ps nb g => by have := g7.2 g.2.2.2.2.2.2.1; omega⟩
            · skip
              replace c6 := ti_eqN (a := r7) (b := (0 : Int32)) c6 rfl (show (0 : Int32).toInt = 0 from rfl)
              have g := rp_196 J7 (by omega) (sd := sd) (rt := (rgV V (p + 2)).2) (ps := (psV V ((rgV V (p + 2)).1 + 1)).2) ⟨by rw [F7 25 (by decide), F6 25 (by decide), F5 25 (by decide), F4 25 (by decide), F3 25 (by decide), f2]; exact h25, hs, by rw [F7 26 (by decide), F6 26 (by decide), F5 26 (by decide)]; exact h426, ⟨rg3, rg4⟩, by rw [F7 27 (by decide)]; exact h627, ⟨ps3, ps4⟩⟩ hf
              rcases g with ⟨d1, nb, d2, d3⟩ | ⟨d1, d2⟩
              · exact Or.inl ⟨d1, _, _, nb, ⟨g3.1 (by omega), g4.1 (by omega), rfl, g5.1 (by omega), g6.1 (by omega), rfl, g7.1 (by omega), d2⟩, d3⟩
              · refine Or.inr ⟨d1, fun rt ps nb g => ?_⟩
                obtain ⟨-, -, e1, -, -, e2, -, e3⟩ := g
                rw [e1, e2] at e3
                exact d2 nb e3
theorem rp_109 {t0 : Int32} (hJ : VJ I A b n V p m) (hp : p ≤ 700) (ht : (t0.toInt = 0 ∧ V p = 119) ∨ (t0.toInt = 1 ∧ V p ≠ 119)) (hf : f_readPosition_109 t0 I A = some o) : (o.1.toInt = 1 ∧ ∃ sd rt ps nb, (((V p = 119 ∧ sd = 0) ∨ (V p = 98 ∧ sd = 1)) ∧ V (p + 1) = 32 ∧ FEN2 V n m sd rt ps nb (p + 2)) ∧ RES o m sd rt ps nb) ∨ (o.1.toInt = 0 ∧ ∀ sd rt ps nb, ¬ (((V p = 119 ∧ sd = 0) ∨ (V p = 98 ∧ sd = 1)) ∧ V (p + 1) = 32 ∧ FEN2 V n m sd rt ps nb (p + 2))) := by
  have fin : ∀ I1, VJ I1 A b n V p m → (I1 25).toInt = t0.toInt → ((V p = 119 ∧ t0.toInt = 0) ∨ (V p = 98 ∧ t0.toInt = 1)) → f_readPosition_130 I1 A = some o → (o.1.toInt = 1 ∧ ∃ sd rt ps nb, (((V p = 119 ∧ sd = 0) ∨ (V p = 98 ∧ sd = 1)) ∧ V (p + 1) = 32 ∧ FEN2 V n m sd rt ps nb (p + 2)) ∧ RES o m sd rt ps nb) ∨ (o.1.toInt = 0 ∧ ∀ sd rt ps nb, ¬ (((V p = 119 ∧ sd = 0) ∨ (V p = 98 ∧ sd = 1)) ∧ V (p + 1) = 32 ∧ FEN2 V n m sd rt ps nb (p + 2))) := by
    intro I1 J1 h1 hc hf
    have g := rp_135 J1 hp h1 (by omega) hf
    rcases g with ⟨d1, rt, ps, nb, d2, d3⟩ | ⟨d1, d2⟩
    · exact Or.inl ⟨d1, t0.toInt, rt, ps, nb, ⟨hc, d2⟩, d3⟩
    · refine Or.inr ⟨d1, fun sd rt ps nb g => ?_⟩
      have e : sd = t0.toInt := by have := g.1; omega
      have e2 := g.2
      rw [e] at e2
      exact d2 rt ps nb e2
  unfold f_readPosition_109 at hf
  obtain ⟨I1, e_I1, hf⟩ := m_bndE hf
  have J1 : VJ I1 A b n V p m := vj_w hJ e_I1 (show (0 : Int) ≤ _ by omega) (show _ ≤ (1 : Int) by omega) (by decide) (by decide)
  have h1 : (I1 25).toInt = t0.toInt := by rw [e_I1, upd_self]
  obtain ⟨r2, h_r2, hf⟩ := m_clR hf (fun _ h => rro_sign h)
  have p_r2 := pc_sign h_r2
  dsimp only at p_r2
  rw [vj_sg J1] at p_r2
  rcases m_ifE hf with ⟨c1, hf⟩ | ⟨c1, hf⟩
  · skip
    replace c1 := ti_eqP (a := r2) (b := (119 : Int32)) c1 rfl (show (119 : Int32).toInt = 119 from rfl)
    exact fin I1 J1 h1 (by omega) hf
  · skip
    replace c1 := ti_eqN (a := r2) (b := (119 : Int32)) c1 rfl (show (119 : Int32).toInt = 119 from rfl)
    obtain ⟨r3, h_r3, hf⟩ := m_clR hf (fun _ h => rro_sign h)
    have p_r3 := pc_sign h_r3
    dsimp only at p_r3
    rw [vj_sg J1] at p_r3
    rcases m_ifE hf with ⟨c2, hf⟩ | ⟨c2, hf⟩
    · skip
      replace c2 := ti_eqP (a := r3) (b := (98 : Int32)) c2 rfl (show (98 : Int32).toInt = 98 from rfl)
      exact fin I1 J1 h1 (by omega) hf
    · skip
      replace c2 := ti_eqN (a := r3) (b := (98 : Int32)) c2 rfl (show (98 : Int32).toInt = 98 from rfl)
      exact Or.inr ⟨rp_0f hf, fun sd rt ps nb g => by have := g.1; omega⟩
theorem rp_39f : ∀ (N : Nat) (x4 : Int32) (I : Nat → Int32) (A : Nat → Nat → Int32), (-1 ≤ x4.toInt ∧ x4.toInt ≤ 7) → f_readPosition_39 N 0 x4 I A = some o → o.1.toInt = 0 := by
  intro N
  induction N with
  | zero => intro x4 I A _ hf; cases hf
  | succ N ih =>
    intro x4 I A h4 hf
    have hf : f_readPosition_39s (f_readPosition_39 N) 0 x4 I A = some o := hf
    have z0 : (0 : Int32).toInt = 0 := rfl
    unfold f_readPosition_39s at hf
    rcases m_ifE hf with ⟨c1, hf⟩ | ⟨c1, hf⟩
    · rcases m_ifE hf with ⟨c2, hf⟩ | ⟨c2, hf⟩
      · obtain ⟨-, hf⟩ := m_chkE hf
        cases hf
        rfl
      · exact absurd rfl c2
    · replace c1 := ti_ltN (a := x4) (b := (0 : Int32)) c1 rfl rfl
      rcases m_ifE hf with ⟨c2, hf⟩ | ⟨c2, hf⟩
      · unfold f_readPosition_80 f_readPosition_81 at hf
        obtain ⟨v1, e1, hf⟩ := m_bndE hf
        have t1 : v1.toInt = x4.toInt + -1 := ti_add e1 rfl (show (-1 : Int32).toInt = -1 from rfl) (by omega) (by omega)
        exact ih v1 I A (by omega) hf
      · exact absurd rfl c2
/-- what comes behind the men -/
def FNe (V : Int → Int) (n : Int) (m : Int → Int) (sd rt ps nb p : Int) : Prop := ((V p = 119 ∧ sd = 0) ∨ (V p = 98 ∧ sd = 1)) ∧ V (p + 1) = 32 ∧ FEN2 V n m sd rt ps nb (p + 2)
theorem rp_39 : ∀ (N : Nat) (x4 : Int32) (I : Nat → Int32) (A : Nat → Nat → Int32) (p : Int) (m : Int → Int) (r : Nat), x4.toInt = (r : Int) - 1 → r ≤ 8 → VJ I A b n V p m → p + 9 * (r : Int) ≤ 600 → f_readPosition_39 N 1 x4 I A = some o → (o.1.toInt = 1 ∧ ∃ q m2 sd rt ps nb, mrV V r p m = some (q, m2) ∧ FNe V n m2 sd rt ps nb q ∧ MBd m2 ∧ RES o m2 sd rt ps nb) ∨ (o.1.toInt = 0 ∧ ∀ q m2, mrV V r p m = some (q, m2) → ∀ sd rt ps nb, ¬ FNe V n m2 sd rt ps nb q) := by
  intro N
  induction N with
  | zero => intro x4 I A p m r _ _ _ _ hf; cases hf
  | succ N ih =>
    intro x4 I A p m r h4 hr hJ hpr hf
    have hf : f_readPosition_39s (f_readPosition_39 N) 1 x4 I A = some o := hf
    have z0 : (0 : Int32).toInt = 0 := rfl
    have z1 : (1 : Int32).toInt = 1 := rfl
    have z32 : (32 : Int32).toInt = 32 := rfl
    have z47 : (47 : Int32).toInt = 47 := rfl
    have last : ∀ t0 : Int32, r = 0 → ((t0.toInt = 0 ∧ V p = 119) ∨ (t0.toInt = 1 ∧ V p ≠ 119)) → f_readPosition_109 t0 I A = some o → (o.1.toInt = 1 ∧ ∃ q m2 sd rt ps nb, mrV V r p m = some (q, m2) ∧ FNe V n m2 sd rt ps nb q ∧ MBd m2 ∧ RES o m2 sd rt ps nb) ∨ (o.1.toInt = 0 ∧ ∀ q m2, mrV V r p m = some (q, m2) → ∀ sd rt ps nb, ¬ FNe V n m2 sd rt ps nb q) := by
      intro t0 hr0 ht hf
      subst hr0
      have e : mrV V 0 p m = some (p, m) := rfl
      rcases rp_109 hJ (by omega) ht hf with ⟨d1, sd, rt, ps, nb, d2, d3⟩ | ⟨d1, d2⟩
      · exact Or.inl ⟨d1, p, m, sd, rt, ps, nb, e, d2, hJ.2.2.2.2.2.2.2.2.2, d3⟩
      · refine Or.inr ⟨d1, fun q m2 g => ?_⟩
        rw [e] at g
        cases g
        exact d2
    have stop : ∀ I1 A1, mrV V r p m = none → 0 ≤ x4.toInt → f_readPosition_80 (f_readPosition_39 N) x4 I1 A1 = some o → (o.1.toInt = 1 ∧ ∃ q m2 sd rt ps nb, mrV V r p m = some (q, m2) ∧ FNe V n m2 sd rt ps nb q ∧ MBd m2 ∧ RES o m2 sd rt ps nb) ∨ (o.1.toInt = 0 ∧ ∀ q m2, mrV V r p m = some (q, m2) → ∀ sd rt ps nb, ¬ FNe V n m2 sd rt ps nb q) := by
      intro I1 A1 hn h0 hf
      unfold f_readPosition_80 f_readPosition_81 at hf
      obtain ⟨v1, e1, hf⟩ := m_bndE hf
      have t1 : v1.toInt = x4.toInt + -1 := ti_add e1 rfl (show (-1 : Int32).toInt = -1 from rfl) (by omega) (by omega)
      refine Or.inr ⟨rp_39f N v1 I1 A1 (by omega) hf, fun q m2 g => ?_⟩
      rw [hn] at g
      cases g
    have nxt : ∀ (t0 : Int32) (k : Nat) (I1 : Nat → Int32) (A1 : Nat → Nat → Int32) (q : Int) (m2 : Int → Int), r = k + 1 → t0.toInt = (if k = 0 then 32 else 47) → VJ I1 A1 b n V q m2 → q ≤ p + 8 → rkV V (8 * (k : Int)) 9 p 0 0 m = some (q, m2) → f_readPosition_70 (f_readPosition_39 N) x4 t0 I1 A1 = some o → (o.1.toInt = 1 ∧ ∃ q m2 sd rt ps nb, mrV V r p m = some (q, m2) ∧ FNe V n m2 sd rt ps nb q ∧ MBd m2 ∧ RES o m2 sd rt ps nb) ∨ (o.1.toInt = 0 ∧ ∀ q m2, mrV V r p m = some (q, m2) → ∀ sd rt ps nb, ¬ FNe V n m2 sd rt ps nb q) := by
      intro t0 k I1 A1 q m2 hrk ht J1 hq hrv hf
      have em : mrV V r p m = if V q = (if k = 0 then 32 else 47) then mrV V k (q + 1) m2 else none := by
        rw [hrk]
        show bnd2 (rkV V (8 * (k : Int)) 9 p 0 0 m) _ = _
        rw [hrv]
        rfl
      unfold f_readPosition_70 at hf
      obtain ⟨⟨r1, I3, A3⟩, h_r1, hf⟩ := m_clE hf
      dsimp only at hf
      obtain ⟨J3, b3, g3⟩ := v_pass J1 (by omega) h_r1
      dsimp only at J3 b3 g3
      rw [ht] at g3
      rcases m_ifE hf with ⟨c1, hf⟩ | ⟨c1, hf⟩
      · replace c1 := ti_eqP (a := r1) (b := (0 : Int32)) c1 rfl rfl
        refine stop I3 A3 ?_ (by omega) hf
        rw [em, if_neg (fun g => by have := g3.2 g; omega)]
      · replace c1 := ti_eqN (a := r1) (b := (0 : Int32)) c1 rfl rfl
        unfold f_readPosition_81 at hf
        obtain ⟨v1, e1, hf⟩ := m_bndE hf
        have t1 : v1.toInt = x4.toInt + -1 := ti_add e1 rfl (show (-1 : Int32).toInt = -1 from rfl) (by omega) (by omega)
        rw [em, if_pos (g3.1 (by omega))]
        exact ih v1 I3 A3 (q + 1) m2 k (by omega) (by omega) J3 (by omega) hf
    unfold f_readPosition_39s at hf
    rcases m_ifE hf with ⟨c1, hf⟩ | ⟨c1, hf⟩
    · replace c1 := ti_ltP (a := x4) (b := (0 : Int32)) c1 rfl rfl
      rcases m_ifE hf with ⟨c2, hf⟩ | ⟨c2, hf⟩
      · exact absurd c2 (by decide)
      · obtain ⟨r1, h_r1, hf⟩ := m_clR hf (fun _ h => rro_sign h)
        have p_r1 := pc_sign h_r1
        dsimp only at p_r1
        rw [vj_sg hJ] at p_r1
        rcases m_ifE hf with ⟨c3, hf⟩ | ⟨c3, hf⟩
        · replace c3 := ti_eqP (a := r1) (b := (119 : Int32)) c3 rfl (show (119 : Int32).toInt = 119 from rfl)
          exact last 0 (by omega) (Or.inl ⟨rfl, by omega⟩) hf
        · replace c3 := ti_eqN (a := r1) (b := (119 : Int32)) c3 rfl (show (119 : Int32).toInt = 119 from rfl)
          exact last 1 (by omega) (Or.inr ⟨rfl, by omega⟩) hf
    · replace c1 := ti_ltN (a := x4) (b := (0 : Int32)) c1 rfl rfl
      obtain ⟨k, rfl⟩ : ∃ k, r = k + 1 := ⟨r - 1, by omega⟩
      rcases m_ifE hf with ⟨c2, hf⟩ | ⟨c2, hf⟩
      · exact absurd c2 (by decide)
      · obtain ⟨⟨r2, I2, A2⟩, h_r2, hf⟩ := m_clE hf
        dsimp only at hf
        have g2 := v_rank (r := (k : Int)) (by omega) (by omega) hJ (by omega) h_r2
        dsimp only at g2
        rcases m_ifE hf with ⟨c3, hf⟩ | ⟨c3, hf⟩
        · replace c3 := ti_eqP (a := r2) (b := (0 : Int32)) c3 rfl rfl
          rcases g2 with ⟨a, -⟩ | ⟨-, a⟩
          · omega
          · refine stop I2 A2 ?_ c1 hf
            show bnd2 (rkV V (8 * (k : Int)) 9 p 0 0 m) _ = none
            rw [a]
            rfl
        · replace c3 := ti_eqN (a := r2) (b := (0 : Int32)) c3 rfl rfl
          obtain ⟨q, m2, a2, a3, a4⟩ : ∃ q m2, rkV V (8 * (k : Int)) 9 p 0 0 m = some (q, m2) ∧ VJ I2 A2 b n V q m2 ∧ q ≤ p + 8 := by
            rcases g2 with ⟨-, a⟩ | ⟨a, -⟩
            · exact a
            · omega
          rcases m_ifE hf with ⟨c4, hf⟩ | ⟨c4, hf⟩
          · replace c4 := ti_leP (a := x4) (b := (0 : Int32)) c4 rfl rfl
            exact nxt 32 k I2 A2 q m2 rfl (by rw [if_pos (by omega)]; rfl) a3 a4 a2 hf
          · replace c4 := ti_leN (a := x4) (b := (0 : Int32)) c4 rfl rfl
            exact nxt 47 k I2 A2 q m2 rfl (by rw [if_neg (by omega)]; rfl) a3 a4 a2 hf
theorem rp_14 {I : Nat → Int32} (hI : TJ I) (hb : 0 ≤ b ∧ b ≤ 1440 ∧ 0 ≤ n ∧ n ≤ 96) (h38 : (I 38).toInt = b) (h39 : (I 39).toInt = b + n) (hc : ∀ i, 0 ≤ V i ∧ V i ≤ 127) : ∀ (N : Nat) (x3 : Int32) (A : Nat → Nat → Int32), (0 ≤ x3.toInt ∧ x3.toInt ≤ 64) → TK A → (∀ i, 0 ≤ i → V i = vR A b n i) → (∀ s, 0 ≤ s → s < x3.toInt → mR A s = 0) → f_readPosition_14 N x3 I A = some o → (o.1.toInt = 1 ∧ ∃ q m2 sd rt ps nb, mrV V 8 0 (fun _ => 0) = some (q, m2) ∧ FNe V n m2 sd rt ps nb q ∧ MBd m2 ∧ RES o m2 sd rt ps nb) ∨ (o.1.toInt = 0 ∧ ∀ q m2, mrV V 8 0 (fun _ => 0) = some (q, m2) → ∀ sd rt ps nb, ¬ FNe V n m2 sd rt ps nb q) := by
  intro N
  induction N with
  | zero => intro x3 A _ _ _ _ hf; cases hf
  | succ N ih =>
    intro x3 A h3 hA hV hz hf
    have hf : f_readPosition_14s (f_readPosition_14 N) x3 I A = some o := hf
    have z0 : (0 : Int32).toInt = 0 := rfl
    unfold f_readPosition_14s at hf
    rcases m_ifE hf with ⟨c1, hf⟩ | ⟨c1, hf⟩
    · replace c1 := ti_leP (a := (64 : Int32)) (b := x3) c1 (show (64 : Int32).toInt = 64 from rfl) rfl
      have m0 : mR A = (fun _ => 0) := by
        funext s
        by_cases c : 0 ≤ s ∧ s < 64
        · exact hz s c.1 (by omega)
        · unfold mR
          rw [if_neg c]
      have J : VJ I A b n V 0 (fun _ => 0) := ⟨hI, hA, hb, by omega, h39, by decide, hV, hc, m0, fun _ => show (0 : Int) ≤ 0 ∧ (0 : Int) ≤ 14 ∧ (0 : Int) ≠ 7 ∧ (0 : Int) ≠ 8 by decide⟩
      exact rp_39 mFuel 7 I A 0 (fun _ => 0) 8 rfl (by decide) J (by decide) hf
    · replace c1 := ti_leN (a := (64 : Int32)) (b := x3) c1 (show (64 : Int32).toInt = 64 from rfl) rfl
      obtain ⟨-, hf⟩ := m_chkE hf
      obtain ⟨A1, e1, hf⟩ := m_bndE hf
      obtain ⟨v2, e2, hf⟩ := m_bndE hf
      have t2 : v2.toInt = x3.toInt + 1 := ti_add e2 rfl (show (1 : Int32).toInt = 1 from rfl) (by omega) (by omega)
      have mu := mR_up e1 (by omega) (by omega)
      refine ih v2 A1 (by omega) (by rw [e1]; exact tk_w hA rfl) (fun i hi => ?_) (fun s s0 s1 => ?_) hf
      · rw [hV i hi]
        unfold vR
        rw [e1, va_up_ne _ _ (by decide)]
      · rw [mu]
        by_cases e : s = x3.toInt
        · rw [e, up_s]; rfl
        · rw [up_n e]; exact hz s s0 (by omega)
theorem v_readPosition {x1 x2 : Int32} (hI : TJ I) (hA : TK A) (h1 : x1.toInt = b) (h2 : x2.toInt = n) (hb : 0 ≤ b ∧ b ≤ 1440 ∧ 0 ≤ n ∧ n ≤ 96) (hV : ∀ i, 0 ≤ i → V i = vR A b n i) (hc : ∀ i, 0 ≤ V i ∧ V i ≤ 127) (hf : f_readPosition x1 x2 I A = some o) : (o.1.toInt = 1 ∧ ∃ m sd rt ps nb, FENp V n m sd rt ps nb ∧ MBd m ∧ RES o m sd rt ps nb) ∨ (o.1.toInt = 0 ∧ ∀ m sd rt ps nb, ¬ FENp V n m sd rt ps nb) := by
  have hf : f_readPosition_0 x1 x2 I A = some o := hf
  unfold f_readPosition_0 at hf
  obtain ⟨I1, e1, hf⟩ := m_bndE hf
  obtain ⟨v2, e2, hf⟩ := m_bndE hf
  obtain ⟨I3, e3, hf⟩ := m_bndE hf
  have t2 : v2.toInt = x1.toInt + x2.toInt := ti_add e2 rfl rfl (by omega) (by omega)
  have T1 : TJ I1 := by rw [e1]; exact tj_u hI (show (0 : Int) ≤ _ by omega) (show _ ≤ (4000 : Int) by omega)
  have T3 : TJ I3 := by rw [e3]; exact tj_u T1 (show (0 : Int) ≤ _ by omega) (show _ ≤ (1536 : Int) by omega)
  have g := rp_14 (b := b) (n := n) (V := V) T3 hb (by rw [e3, upd_ne (by decide), e1, upd_self]; exact h1) (by rw [e3, upd_self]; omega) hc mFuel 0 A (by decide) hA hV (fun s s0 s1 => by have z0 : (0 : Int32).toInt = 0 := rfl; omega) hf
  have mm := mh_mr (V := V) (p := 0) (m := fun _ => 0)
  have to : ∀ {m sd rt ps nb}, FENp V n m sd rt ps nb → ∃ q, mrV V 8 0 (fun _ => 0) = some (q, m) ∧ FNe V n m sd rt ps nb q := by
    rintro m sd rt ps nb ⟨p1, a1, a2, a3, a4, a5⟩
    rw [a1] at mm
    have e : bnd2 (some (p1, m)) (spV V) = some (p1 + 1, m) := by
      show (if V p1 = 32 then some (p1 + 1, m) else none) = _
      rw [if_pos a2]
    rw [e] at mm
    refine ⟨p1 + 1, mm.symm, a3, ?_, ?_⟩
    · rw [show p1 + 1 + 1 = p1 + 2 by omega]; exact a4
    · rw [show p1 + 1 + 2 = p1 + 3 by omega]; exact a5
  have fr : ∀ {q m sd rt ps nb}, mrV V 8 0 (fun _ => 0) = some (q, m) → FNe V n m sd rt ps nb q → FENp V n m sd rt ps nb := by
    rintro q m sd rt ps nb a1 ⟨a3, a4, a5⟩
    rw [a1] at mm
    cases hh : mhV V 8 0 (fun _ => 0) with
    | none => rw [hh] at mm; cases mm
    | some z =>
      rw [hh] at mm
      have e : (if V z.1 = 32 then some (z.1 + 1, z.2) else none) = some (q, m) := mm
      by_cases c : V z.1 = 32
      · rw [if_pos c] at e
        have e' := Option.some.inj e
        have e5 : z.1 + 1 = q := congrArg Prod.fst e'
        have e6 : z.2 = m := congrArg Prod.snd e'
        refine ⟨z.1, by rw [← e6]; exact hh, c, ?_, ?_, ?_⟩
        · rw [e5]; exact a3
        · rw [show z.1 + 2 = q + 1 by omega]; exact a4
        · rw [show z.1 + 3 = q + 2 by omega]; exact a5
      · rw [if_neg c] at e; cases e
  rcases g with ⟨d1, q, m2, sd, rt, ps, nb, d2, d3, d4, d5⟩ | ⟨d1, d2⟩
  · exact Or.inl ⟨d1, m2, sd, rt, ps, nb, fr d2 d3, d4, d5⟩
  · refine Or.inr ⟨d1, fun m sd rt ps nb h => ?_⟩
    obtain ⟨q, g1, g2⟩ := to h
    exact d2 q m g1 sd rt ps nb g2
end RPO
