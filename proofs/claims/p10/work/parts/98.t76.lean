section RHE
variable {S0 S S1 S' : ZS} {g g' : Nat} {ch : Int → Int} {N p q : Int} {st st' : PO} {L L' : List (List Int × List Int)} {T T' : TRa} {o : Int32 × ZS}
theorem cs_hs (h : HSt S0 S g g' ch N p st L T) : CSt S S g g' ch N p st T := by
  obtain ⟨c, ⟨hg, hX, hF0⟩, ⟨l, hpN, p3⟩, ⟨tr, hw, h0⟩, ⟨bo, pg, nb⟩, tg, lb⟩ := h
  exact ⟨c, ⟨hg, c.2.2.1, fr_0⟩, l, hpN, p3, tr, ⟨hw, pg, nb, fun k k1 k2 => by omega⟩, rfl⟩
theorem kpc_e (hg : GG g g') (hX : FIX S0) (hF : FR (fun a => ¬ KPc S0 g' a) S0 S1) {a : Nat} (h : KPc S0 g' a) : KPc S1 g' a := by
  obtain ⟨b5, b6⟩ := kp_B hg hF hX
  unfold KPc at h ⊢
  rw [b5, b6]
  exact h
theorem hn_of (h : HSt S0 S1 g g' ch N p st L T) (hn : CSn S1 S g g') : HSn S0 S g' := by
  obtain ⟨c, ⟨hg, hX, hF0⟩, -⟩ := h
  exact ⟨hn.1, fr_t hF0 (fr_m hn.2.1 (fun a _ ha hk => ha (Or.inl (kpc_e hg hX hF0 hk))))⟩
/-- the game is read, but for its end -/
noncomputable def MSt (S0 S : ZS) (g g' : Nat) (ch : Int → Int) (N p : Int) (st : PO) (L : List (List Int × List Int)) (T : TRa) : Prop := CG S ∧ (GG g g' ∧ FIX S0 ∧ FR (fun a => ¬ KPc S0 g' a) S0 S) ∧ (LW S ch N p ∧ p ≤ N ∧ zP S 3 23 = some g) ∧ (TRc S g T ∧ WT T ∧ LTr st T) ∧ BO S (g + 1) st ∧ TGk S g L ∧ LBd L
theorem ms_of (h : HSt S0 S1 g g' ch N p st L T) (hc : CSt S1 S g g' ch N q st T') : MSt S0 S g g' ch N q st L T' := by
  have hn := hn_of h (cs_n hc)
  obtain ⟨c, ⟨hg, hX, hF0⟩, ⟨l, hpN, p3⟩, ⟨tr, hw, h0⟩, ⟨bo, pg, nb⟩, tg, lb⟩ := h
  obtain ⟨c2, ⟨-, -, hF2⟩, l2, hq, p32, tr2, wl, i5⟩ := hc
  exact ⟨c2, ⟨hg, hX, hn.2⟩, ⟨l2, hq, p32⟩, ⟨tr2, wl.1, wl.2⟩, bo_fr bo hF2 (fun n => n (Or.inr (Or.inl rfl))) (fun n => n (Or.inr (Or.inr (Or.inl rfl)))), tgk_fr c (gg_g hg) tg hF2 i5 (fun n => n (Or.inr (Or.inr (Or.inr (Or.inl rfl))))) (fun i t ht => ⟨fun n => n (Or.inr (Or.inr (Or.inr (Or.inr ⟨i, t, ht, Or.inr (Or.inl rfl)⟩)))), fun n => n (Or.inr (Or.inr (Or.inr (Or.inr ⟨i, t, ht, Or.inr (Or.inr rfl)⟩))))⟩), lb⟩
/-- the class's head of a game -/
theorem p_readHead (h : HSt S0 S g g' ch N p st [] T) (hf : d_X2_readHead 23 S = some o) : (∃ r e w S1, hdP ch N 9 (blk ch p) [] st = some r ∧ HSt S0 S1 g g' ch N r.1 r.2.2 r.2.1 T ∧ rmkP ch N 2001 (blk ch r.1) (tR T 0) = some (e, w) ∧ o.1.toInt = 1 ∧ CSt S1 o.2 g g' ch N e r.2.2 (rkT T 0 w) ∧ BO o.2 (g + 1) r.2.2) ∨ ((hdP ch N 9 (blk ch p) [] st = none ∨ ∃ r, hdP ch N 9 (blk ch p) [] st = some r ∧ rmkP ch N 2001 (blk ch r.1) (tR T 0) = none) ∧ o.1.toInt = 0 ∧ HSn S0 o.2 g') := by
  have hf : d_X2_readHead_0 23 S = some o := hf
  obtain ⟨c, ⟨hg, hX, hF0⟩, ⟨l, hpN, p3⟩, -⟩ := id h
  have hb : (g = 35 ∧ g' = 99) ∨ (g = 99 ∧ g' = 35) := hg
  unfold d_X2_readHead_0 at hf
  obtain ⟨-, hf⟩ := m_chkE hf
  obtain ⟨⟨r1, S2⟩, h_r1, hf⟩ := m_calE hf
  dsimp only at hf
  obtain ⟨-, hf⟩ := m_chkE hf
  obtain ⟨b1, b2, b3, b4⟩ := lw_bl l h_r1
  dsimp only at b2 b3
  have H := hs_rd h b2 (by omega) b3 (fun a ha => by unfold WRd; omega)
  rcases rh_8 mFuel S2 1 0 9 (blk ch p) [] st H rfl rfl (by decide) hf with ⟨r, S1, a1, a2, a3⟩ | ⟨a1, a2, a3⟩
  · obtain ⟨c1, -, ⟨l1, -, p31⟩, ⟨tr1, -, t0⟩, ⟨bo1, -⟩, -⟩ := id a2
    have hgr := gg_g hg
    unfold d_X2_readHead_50 at a3
    rcases m_ifE a3 with ⟨c9, hf⟩ | ⟨-, hf⟩
    · exact absurd c9 (by decide)
    · obtain ⟨-, hf⟩ := m_chkE hf
      replace hf := m_calY hf p31
      obtain ⟨-, hf⟩ := m_chkE hf
      obtain ⟨⟨r2, S3⟩, h_r2, hf⟩ := m_calE hf
      dsimp only at hf
      obtain ⟨e3, q2⟩ := p_at c1 hgr tr1 (by decide) (show (0 : Int32).toInt ≤ _ by rw [t0]; decide) h_r2
      obtain ⟨-, hf⟩ := m_chkE hf
      obtain ⟨-, hf⟩ := m_chkE hf
      rw [e3, q2] at hf
      obtain ⟨⟨r4, S5⟩, h_r4, hf⟩ := m_cal2E hf
      dsimp only at hf
      rcases cs_rk (cs_hs a2) (show (0 : Int32).toInt.toNat ≤ tn T from Nat.zero_le _) h_r4 with ⟨e, w, x1, x2, x3, x4⟩ | ⟨x1, x2, x3⟩
      · dsimp only at x2 x3 x4
        rcases m_ifE hf with ⟨c8, hf⟩ | ⟨-, hf⟩
        · rw [c8] at x2; exact absurd x2 (by decide)
        · unfold d_X2_readHead_74 at hf
          obtain ⟨-, hf⟩ := m_chkE hf
          cases hf
          have n0 := nk_ne c1 hgr 0 (a := g + 1) (by omega) (by omega) (by omega) (by omega)
          have n1 := nk_ne c1 hgr 0 (a := g + 2) (by omega) (by omega) (by omega) (by omega)
          refine Or.inl ⟨r, e, w, S1, a1, a2, x1, rfl, x3, bo_fr bo1 x4 ?_ ?_⟩
          · rintro (ee | ee)
            · omega
            · exact n0.2 ee.symm
          · rintro (ee | ee)
            · omega
            · exact n1.2 ee.symm
      · dsimp only at x2 x3
        rcases m_ifE hf with ⟨c8, hf⟩ | ⟨c8, hf⟩
        · unfold d_X2_readHead_73 d_X2_readHead_74 at hf
          obtain ⟨-, hf⟩ := m_chkE hf
          cases hf
          exact Or.inr ⟨Or.inr ⟨r, a1, x1⟩, rfl, hn_of a2 x3⟩
        · exact absurd (i32_of x2) c8
  · exact Or.inr ⟨Or.inl a1, a2, a3⟩
/-- the tag Result tells the same -/
noncomputable def AGr (L : List (List Int × List Int)) (r : Int) : Prop := ∀ i : Int, 0 ≤ i → i < (L.length : Int) → nmL L i = strL 10 → vlL L i = strL (rsS r)
theorem aw_2 {gm : Nat} {x1 : Int32} (hT : ZT S) (h : TGc S gm L) (lb : LBd L) : ∀ (n : Nat) (x2 : Int32), 0 ≤ x2.toInt → x2.toInt ≤ (L.length : Int) → (∀ i : Int, 0 ≤ i → i < x2.toInt → nmL L i = strL 10 → vlL L i = strL (rsS x1.toInt)) → d_X1_agreesWith_2 n gm x1 x2 S = some o → o.2 = S ∧ (o.1.toInt = 0 ∨ o.1.toInt = 1) ∧ (o.1.toInt = 1 ↔ AGr L x1.toInt) := by
  intro n
  induction n with
  | zero => intro x2 _ _ _ hf; cases hf
  | succ n ih =>
    intro x2 h0 h2 hs hf
    have hf : d_X1_agreesWith_2s (d_X1_agreesWith_2 n) gm x1 x2 S = some o := hf
    have l1 := h.1
    have h8 := h.2.1
    have go : ∀ hq : nmL L x2.toInt = strL 10 → vlL L x2.toInt = strL (rsS x1.toInt), x2.toInt < (L.length : Int) → d_X1_agreesWith_46 (d_X1_agreesWith_2 n) gm x1 x2 S = some o → o.2 = S ∧ (o.1.toInt = 0 ∨ o.1.toInt = 1) ∧ (o.1.toInt = 1 ↔ AGr L x1.toInt) := fun hq hlt hf => by
      unfold d_X1_agreesWith_46 at hf
      obtain ⟨v8, e8, hf⟩ := m_bndE hf
      have t8 : v8.toInt = x2.toInt + 1 := ti_add e8 rfl (show (1 : Int32).toInt = 1 from rfl) (by omega) (by omega)
      refine ih v8 (by omega) (by omega) (fun i i0 i1 => ?_) hf
      by_cases e : i = x2.toInt
      · rw [e]; exact hq
      · exact hs i i0 (by omega)
    unfold d_X1_agreesWith_2s at hf
    obtain ⟨-, hf⟩ := m_chkE hf
    rcases m_ifE hf with ⟨c1, hf⟩ | ⟨c1, hf⟩
    · replace c1 := ti_leP (a := zI S 5 gm) (b := x2) c1 rfl rfl
      obtain ⟨-, hf⟩ := m_chkE hf
      cases hf
      exact ⟨rfl, Or.inr rfl, fun _ i i0 i1 => hs i i0 (by omega), fun _ => rfl⟩
    · replace c1 := ti_leN (a := zI S 5 gm) (b := x2) c1 rfl rfl
      obtain ⟨-, hf⟩ := m_chkE hf
      obtain ⟨⟨r2, S3⟩, h_r2, hf⟩ := m_cal2E hf
      dsimp only at hf
      obtain ⟨e3, n1, v1, g1, g2, g3, g4⟩ := p_tagAt h ⟨h0, by omega⟩ h_r2
      rw [e3] at hf
      have lb2 := lb x2.toInt h0 (by omega)
      obtain ⟨-, hf⟩ := m_chkE hf
      replace hf := m_calY hf g1
      obtain ⟨-, hf⟩ := m_chkE hf
      obtain ⟨r7, h_r7, hf⟩ := m_calR hf (fun _ h => ro_X6_is h)
      dsimp only at hf
      obtain ⟨b7, q7⟩ := pc_X6_is h_r7 _ g3 (by rw [g3.1]; omega)
      dsimp only at b7 q7
      obtain ⟨-, hf⟩ := m_chkE hf
      rcases m_ifE hf with ⟨c2, hf⟩ | ⟨c2, hf⟩
      · replace c2 := ti_eqP (a := r7) (b := (0 : Int32)) c2 rfl (show (0 : Int32).toInt = 0 from rfl)
        exact go (fun e => by have := q7.2 e; omega) (by omega) hf
      · replace c2 := ti_eqN (a := r7) (b := (0 : Int32)) c2 rfl (show (0 : Int32).toInt = 0 from rfl)
        obtain ⟨-, hf⟩ := m_chkE hf
        obtain ⟨⟨r9, S10⟩, h_r9, hf⟩ := m_cal2E hf
        dsimp only at hf
        obtain ⟨e10, n2, v2, g5, g6, g7, g8⟩ := p_tagAt h ⟨h0, by omega⟩ h_r9
        rw [e10] at hf
        obtain ⟨-, hf⟩ := m_chkE hf
        replace hf := m_calY hf g6
        obtain ⟨⟨r14, S14⟩, h_r14, hf⟩ := m_calE hf
        dsimp only at hf
        obtain ⟨q14, e14⟩ := p_resultSign h_r14
        dsimp only at q14 e14
        rw [e14, q14] at hf
        obtain ⟨-, hf⟩ := m_chkE hf
        obtain ⟨-, hf⟩ := m_chkE hf
        obtain ⟨r15, h_r15, hf⟩ := m_calR hf (fun _ h => ro_X6_is h)
        dsimp only at hf
        obtain ⟨b15, q15⟩ := pc_X6_is h_r15 _ g8 (by rw [g8.1]; omega)
        dsimp only at b15 q15
        obtain ⟨-, hf⟩ := m_chkE hf
        rcases m_ifE hf with ⟨c3, hf⟩ | ⟨c3, hf⟩
        · replace c3 := ti_eqP (a := r15) (b := (0 : Int32)) c3 rfl (show (0 : Int32).toInt = 0 from rfl)
          obtain ⟨-, hf⟩ := m_chkE hf
          cases hf
          refine ⟨rfl, Or.inl rfl, fun e => absurd (show (0 : Int32).toInt = 1 from e) (by decide), fun hA => ?_⟩
          have := q15.2 (hA x2.toInt h0 (by omega) (q7.1 (by omega)))
          omega
        · replace c3 := ti_eqN (a := r15) (b := (0 : Int32)) c3 rfl (show (0 : Int32).toInt = 0 from rfl)
          exact go (fun _ => q15.1 (by omega)) (by omega) hf
theorem p_agrees {gm : Nat} {x1 : Int32} (hT : ZT S) (h : TGc S gm L) (lb : LBd L) (hf : d_X1_agreesWith gm x1 S = some o) : o.2 = S ∧ (o.1.toInt = 0 ∨ o.1.toInt = 1) ∧ (o.1.toInt = 1 ↔ AGr L x1.toInt) := aw_2 hT h lb mFuel 0 (by decide) (show (0 : Int) ≤ (L.length : Int) by omega) (fun i i0 i1 => by have z : (0 : Int32).toInt = 0 := rfl; omega) hf
end RHE
