section WIP
variable {S0 : ZS} {b : Nat} {o : Int32 × ZS}
theorem wp_2 (hp : zP S0 0 b = some (b + 1)) : ∀ (n : Nat) (x1 : Int32) (S : ZS), (0 ≤ x1.toInt ∧ x1.toInt ≤ 64) → SB S0 S b → zI S = zI S0 → (∀ s, 0 ≤ s → s < x1.toInt → mCb S b s = 0) → f_X0_wipe_2 n b x1 S = some o → SB S0 o.2 b ∧ mCb o.2 b = (fun _ => 0) ∧ (zI o.2 3 b).toInt = 0 ∧ (zI o.2 4 b).toInt = 0 ∧ (zI o.2 5 b).toInt = -1 ∧ (zI o.2 6 b).toInt = 1 ∧ zI o.2 1 b = zI S0 1 b ∧ zI o.2 2 b = zI S0 2 b := by
  intro n
  induction n with
  | zero => intro x1 S _ _ _ _ hf; cases hf
  | succ n ih =>
    intro x1 S h1 hs hI hz hf
    have hf : f_X0_wipe_2s (f_X0_wipe_2 n) b x1 S = some o := hf
    have pS : zP S 0 b = some (b + 1) := by rw [hs.2.1]; exact hp
    unfold f_X0_wipe_2s at hf
    rcases m_ifE hf with ⟨c1, hf⟩ | ⟨c1, hf⟩
    · skip
      replace c1 := ti_leP (a := (64 : Int32)) (b := x1) c1 (show (64 : Int32).toInt = 64 from rfl) rfl
      obtain ⟨-, hf⟩ := m_chkE hf
      obtain ⟨S1, e_S1, hf⟩ := m_bndE hf
      obtain ⟨-, hf⟩ := m_chkE hf
      obtain ⟨S2, e_S2, hf⟩ := m_bndE hf
      obtain ⟨-, hf⟩ := m_chkE hf
      obtain ⟨S3, e_S3, hf⟩ := m_bndE hf
      obtain ⟨-, hf⟩ := m_chkE hf
      obtain ⟨S4, e_S4, hf⟩ := m_bndE hf
      cases hf
      try dsimp only
      have m0 : mCb S b = (fun _ => 0) := by
        funext s
        by_cases c : 0 ≤ s ∧ s < 64
        · exact hz s c.1 (by omega)
        · unfold mCb
          rw [if_neg c]
      refine ⟨sb_t (sb_t (sb_t (sb_t hs (sb_I e_S1)) (sb_I e_S2)) (sb_I e_S3)) (sb_I e_S4), ?_, ?_, ?_, ?_, ?_, ?_, ?_⟩
      · rw [mB_I e_S4, mB_I e_S3, mB_I e_S2, mB_I e_S1]; exact m0
      · rw [e_S4, zI_j (by decide), e_S3, zI_j (by decide), e_S2, zI_j (by decide), e_S1, zI_self]; rfl
      · rw [e_S4, zI_j (by decide), e_S3, zI_j (by decide), e_S2, zI_self]; rfl
      · rw [e_S4, zI_j (by decide), e_S3, zI_self]; rfl
      · rw [e_S4, zI_self]; rfl
      · rw [e_S4, zI_j (by decide), e_S3, zI_j (by decide), e_S2, zI_j (by decide), e_S1, zI_j (by decide), hI]
      · rw [e_S4, zI_j (by decide), e_S3, zI_j (by decide), e_S2, zI_j (by decide), e_S1, zI_j (by decide), hI]
    · skip
      replace c1 := ti_leN (a := (64 : Int32)) (b := x1) c1 (show (64 : Int32).toInt = 64 from rfl) rfl
      obtain ⟨-, hf⟩ := m_chkE hf
      replace hf := m_calY hf pS
      obtain ⟨-, hf⟩ := m_chkE hf
      obtain ⟨-, hf⟩ := m_chkE hf
      obtain ⟨S6, e_S6, hf⟩ := m_bndE hf
      obtain ⟨v7, e_v7, hf⟩ := m_bndE hf
      have t_v7 : v7.toInt = x1.toInt + 1 := ti_add e_v7 rfl (show (1 : Int32).toInt = 1 from rfl) (by omega) (by omega)
      have m6 := mB_A pS (by omega) e_S6
      refine ih v7 S6 (by omega) (sb_t hs (sb_A e_S6)) (by rw [e_S6]; exact hI) (fun s s0 s1 => ?_) hf
      rw [m6]
      by_cases e : s = x1.toInt
      · rw [e, up_s]; rfl
      · rw [up_n e]; exact hz s s0 (by omega)
theorem p_wipe {S : ZS} (hp : zP S 0 b = some (b + 1)) (hf : f_X0_wipe b S = some o) : SB S o.2 b ∧ mCb o.2 b = (fun _ => 0) ∧ (zI o.2 3 b).toInt = 0 ∧ (zI o.2 4 b).toInt = 0 ∧ (zI o.2 5 b).toInt = -1 ∧ (zI o.2 6 b).toInt = 1 ∧ zI o.2 1 b = zI S 1 b ∧ zI o.2 2 b = zI S 2 b := wp_2 hp mFuel 0 S (by decide) sb_0 rfl (fun s s0 s1 => by have z : (0 : Int32).toInt = 0 := rfl; omega) hf
end WIP
/-- a sound position -/
def SNDp (m : Int → Int) (sd rt ps : Int) : Prop := NPw m ∧ (∃ k, KU m 0 k) ∧ (∃ k, KU m 1 k) ∧ (∀ k, KU m (1 - sd) k → ¬ attd m k sd) ∧ RTo m rt ∧ SPs m sd ps
def FEN4 (V : Int → Int) (n : Int) (m : Int → Int) (sd rt ps nb p : Int) : Prop := 0 ≤ numC V p ∧ V (p + nd3 V p) = 32 ∧ 0 < numC V (p + nd3 V p + 1) ∧ nb = numC V (p + nd3 V p + 1) ∧ p + nd3 V p + 1 + nd3 V (p + nd3 V p + 1) = n ∧ SNDp m sd rt ps
def FEN3 (V : Int → Int) (n : Int) (m : Int → Int) (sd rt ps nb p : Int) : Prop := (V p = 45 ∨ (psV V p).2 ≠ -1) ∧ ps = (psV V p).2 ∧ V (psV V p).1 = 32 ∧ FEN4 V n m sd rt ps nb ((psV V p).1 + 1)
def FEN2 (V : Int → Int) (n : Int) (m : Int → Int) (sd rt ps nb p : Int) : Prop := (V p = 45 ∨ (rgV V p).2 ≠ 0) ∧ rt = (rgV V p).2 ∧ V (rgV V p).1 = 32 ∧ FEN3 V n m sd rt ps nb ((rgV V p).1 + 1)
/-- a text of a position, and what it tells -/
def FENp (V : Int → Int) (n : Int) (m : Int → Int) (sd rt ps nb : Int) : Prop := ∃ p1, mhV V 8 0 (fun _ => 0) = some (p1, m) ∧ V p1 = 32 ∧ ((V (p1 + 1) = 119 ∧ sd = 0) ∨ (V (p1 + 1) = 98 ∧ sd = 1)) ∧ V (p1 + 2) = 32 ∧ FEN2 V n m sd rt ps nb (p1 + 3)
theorem rg_rng {V : Int → Int} {p : Int} : p ≤ (rgV V p).1 ∧ (rgV V p).1 ≤ p + 4 ∧ 0 ≤ (rgV V p).2 ∧ (rgV V p).2 ≤ 15 := by
  unfold rgV
  split
  · exact ⟨by show p ≤ p + 1; omega, by show p + 1 ≤ p + 4; omega, by show (0 : Int) ≤ 0; decide, by show (0 : Int) ≤ 15; decide⟩
  · obtain ⟨a, b, c, d⟩ := rgN_b (V := V) (p := p) 4 (by decide)
    have e : (2 : Int) ^ 4 = 16 := by decide
    have e2 : ((4 : Nat) : Int) = 4 := rfl
    exact ⟨a, by omega, c, by omega⟩
theorem ps_rng {V : Int → Int} {p : Int} : p ≤ (psV V p).1 ∧ (psV V p).1 ≤ p + 2 ∧ -1 ≤ (psV V p).2 ∧ (psV V p).2 ≤ 63 := by
  unfold psV
  split
  · exact ⟨by show p ≤ p + 1; omega, by show p + 1 ≤ p + 2; omega, by show (-1 : Int) ≤ -1; decide, by show (-1 : Int) ≤ 63; decide⟩
  · refine ⟨by show p ≤ p + 2; omega, Int.le_refl _, ?_⟩
    show -1 ≤ sqO (V p) (V (p + 1)) ∧ sqO (V p) (V (p + 1)) ≤ 63
    unfold sqO
    split <;> omega
theorem snd_eq {m : Int → Int} {sd rt ps kw kb : Int} (hs : sd = 0 ∨ sd = 1) (hw : KI m kw 0) (hb : KI m kb 1) : SNDp m sd rt ps ↔ SMn m sd (if 1 - sd = 0 then kw else kb) ∧ RTo m rt ∧ SPs m sd ps := by
  have e6 : ∀ s : Nat, (m (s : Int) = 6) = (m (s : Int) = 6 + 8 * 0) := fun s => by rw [show (6 + 8 * 0 : Int) = 6 by decide]
  have e14 : ∀ s : Nat, (m (s : Int) = 14) = (m (s : Int) = 6 + 8 * 1) := fun s => by rw [show (6 + 8 * 1 : Int) = 14 by decide]
  have kuw : ∀ {k w q : Int}, KU m w k → KI m q w → KU m w q := fun {k w q} hk hq => by
    obtain ⟨a, b, c⟩ := hq k hk.1 hk.2.1 hk.2.2.1
    have e := hk.2.2.2 q a b c
    rw [e]; exact hk
  unfold SNDp SMn
  rw [funext e6, funext e14]
  constructor
  · rintro ⟨h1, ⟨k1, h2⟩, ⟨k2, h3⟩, h4, h5, h6⟩
    refine ⟨⟨h1, ku_cnt h2, ku_cnt h3, ?_⟩, h5, h6⟩
    rcases hs with e | e <;> subst e
    · rw [if_neg (by decide)]
      exact h4 kb (kuw h3 hb)
    · rw [if_pos (by decide)]
      exact h4 kw (kuw h2 hw)
  · rintro ⟨⟨h1, h2, h3, h4⟩, h5, h6⟩
    obtain ⟨k1, g1⟩ := cnt_ku h2
    obtain ⟨k2, g2⟩ := cnt_ku h3
    refine ⟨h1, ⟨k1, g1⟩, ⟨k2, g2⟩, fun k hk => ?_, h5, h6⟩
    rcases hs with e | e <;> subst e
    · rw [if_neg (by decide)] at h4
      have e := (kuw g2 hb).2.2.2 k hk.1 hk.2.1 hk.2.2.1
      rw [e]; exact h4
    · rw [if_pos (by decide)] at h4
      have e := (kuw g1 hw).2.2.2 k hk.1 hk.2.1 hk.2.2.1
      rw [e]; exact h4
/-- a sound position can stand -/
theorem snd_pos {m : Int → Int} {sd rt ps kw kb : Int} (hs : sd = 0 ∨ sd = 1) (hM : MBd m) (hr : 0 ≤ rt ∧ rt ≤ 15) (hps : -1 ≤ ps ∧ ps ≤ 63) (hw : KI m kw 0) (hb : KI m kb 1) (h : SNDp m sd rt ps) : POS m sd rt ps kw kb := by
  obtain ⟨h1, ⟨k1, h2⟩, ⟨k2, h3⟩, h4, h5, h6⟩ := h
  have kuw : ∀ {k w q : Int}, KU m w k → KI m q w → KU m w q := fun {k w q} hk hq => by
    obtain ⟨a, b, c⟩ := hq k hk.1 hk.2.1 hk.2.2.1
    have e := hk.2.2.2 q a b c
    rw [e]; exact hk
  refine ⟨hs, hM, kuw h2 hw, kuw h3 hb, ?_, h5, hr, ?_⟩
  · rcases h6 with e | e
    · exact Or.inl e
    · by_cases e1 : ps = -1
      · exact Or.inl e1
      · exact Or.inr ⟨by omega, by omega, e.1, e.2.1, e.2.2.1⟩
  · rcases hs with e | e <;> subst e
    · rw [if_pos rfl]; exact h4 kb (kuw h3 hb)
    · rw [if_neg (by decide)]; exact h4 kw (kuw h2 hw)
section RIN
variable {S : ZS} {x0 vr bb : Nat} {V : Int → Int} {n : Int} {o : Int32 × ZS}
theorem zr_0 {r f : Int} : Zr (fun _ => 0) r f := fun _ _ _ => rfl
theorem ki_0 {k w : Int} (hw : w = 0 ∨ w = 1) : KI (fun _ => 0) k w := fun s _ _ h => by
  have h : (0 : Int) = 6 + 8 * w := h
  omega
/-- the board that the class reads -/
def BRd (S : ZS) (bb : Nat) (m : Int → Int) (sd rt ps nb : Int) : Prop := mCb S bb = m ∧ MBd m ∧ (zI S 3 bb).toInt = sd ∧ (zI S 4 bb).toInt = rt ∧ (zI S 5 bb).toInt = ps ∧ (zI S 6 bb).toInt = nb ∧ KI m (zI S 1 bb).toInt 0 ∧ KI m (zI S 2 bb).toInt 1
theorem p_moveNumber {S0 S : ZS} {p : Int} {m : Int → Int} (h : PJ S0 S x0 vr bb V p m) (hp : p ≤ 900) (hf : f_X5_readMoveNumber x0 bb S = some o) : (∀ j, j ≠ 6 → zI o.2 j bb = zI S j bb) ∧ (zI o.2 6 bb).toInt = numC V p ∧ (o.1.toInt = 0 ∨ o.1.toInt = 1) ∧ (o.1.toInt = 1 ↔ 0 < numC V p) ∧ PJ S0 o.2 x0 vr bb V (p + nd3 V p) m := by
  have hf : f_X5_readMoveNumber_0 x0 bb S = some o := hf
  have z0 : (0 : Int32).toInt = 0 := rfl
  unfold f_X5_readMoveNumber_0 at hf
  obtain ⟨-, hf⟩ := m_chkE hf
  obtain ⟨⟨r1, S1c⟩, h_r1, hf⟩ := m_calE hf
  dsimp only at hf
  obtain ⟨i1, q1, J1⟩ := p_number h hp h_r1
  dsimp only at i1 q1 J1
  obtain ⟨-, hf⟩ := m_chkE hf
  obtain ⟨S2, e_S2, hf⟩ := m_bndE hf
  obtain ⟨J2, b2, i2⟩ := pj_b J1 e_S2
  obtain ⟨-, hf⟩ := m_chkE hf
  rcases m_ifE hf with ⟨c1, hf⟩ | ⟨c1, hf⟩
  · skip
    replace c1 := ti_leP (a := (zI S2 6 bb)) (b := (0 : Int32)) c1 rfl (show (0 : Int32).toInt = 0 from rfl)
    unfold f_X5_readMoveNumber_20 at hf
    obtain ⟨-, hf⟩ := m_chkE hf
    cases hf
    try dsimp only
    rw [b2] at c1
    exact ⟨fun j hj => (i2 j hj).trans (i1 j), by rw [b2]; exact q1, Or.inl rfl, ⟨fun g => absurd g (by decide), fun g => by omega⟩, J2⟩
  · skip
    replace c1 := ti_leN (a := (zI S2 6 bb)) (b := (0 : Int32)) c1 rfl (show (0 : Int32).toInt = 0 from rfl)
    unfold f_X5_readMoveNumber_20 at hf
    obtain ⟨-, hf⟩ := m_chkE hf
    cases hf
    try dsimp only
    rw [b2] at c1
    exact ⟨fun j hj => (i2 j hj).trans (i1 j), by rw [b2]; exact q1, Or.inr rfl, ⟨fun g => by omega, fun _ => rfl⟩, J2⟩
theorem p_readInto (hT : ZT S) (k5 : zK S x0 = 5) (k0 : zK S bb = 0) (pb : zP S 0 bb = some (bb + 1)) (k14 : zK S (bb + 1) = 14) (k6 : zK S vr = 6) (hrc : rc vr ≤ 2) (hV : rwC S vr = V) (hVb : ∀ i, 0 ≤ V i ∧ V i ≤ 127) (hn : (zI S 1 vr).toInt = n) (hf : f_X5_readInto x0 bb vr S = some o) : ((o.1.toInt = 1 ∧ PFr (zsI (zsP S 0 x0 (some vr)) 1 x0 0) o.2 x0 bb ∧ ∃ m sd rt ps nb, FENp V n m sd rt ps nb ∧ BRd o.2 bb m sd rt ps nb) ∨ (o.1.toInt = 0 ∧ ∀ m sd rt ps nb, ¬ FENp V n m sd rt ps nb)) := by
  have hf : f_X5_readInto_0 x0 bb vr S = some o := hf
  have z0 : (0 : Int32).toInt = 0 := rfl
  have z32 : (32 : Int32).toInt = 32 := rfl
  have nv : vr ≠ x0 := fun e => by rw [e, k5] at k6; exact absurd k6 (by decide)
  have nb' : vr ≠ bb := fun e => by rw [e, k0] at k6; exact absurd k6 (by decide)
  have nx : x0 ≠ bb := fun e => by rw [e, k0] at k5; exact absurd k5 (by decide)
  have fail : ∀ S9, (∀ m sd rt ps nb, ¬ FENp V n m sd rt ps nb) → f_X5_readInto_145 S9 = some o → ((o.1.toInt = 1 ∧ PFr (zsI (zsP S 0 x0 (some vr)) 1 x0 0) o.2 x0 bb ∧ ∃ m sd rt ps nb, FENp V n m sd rt ps nb ∧ BRd o.2 bb m sd rt ps nb) ∨ (o.1.toInt = 0 ∧ ∀ m sd rt ps nb, ¬ FENp V n m sd rt ps nb)) := by
    intro S9 hno hf
    unfold f_X5_readInto_145 f_X5_readInto_146 at hf
    obtain ⟨-, hf⟩ := m_chkE hf
    cases hf
    exact Or.inr ⟨rfl, hno⟩
  unfold f_X5_readInto_0 at hf
  obtain ⟨-, hf⟩ := m_chkE hf
  obtain ⟨S1, e_S1, hf⟩ := m_bndE hf
  obtain ⟨-, hf⟩ := m_chkE hf
  obtain ⟨S2, e_S2, hf⟩ := m_bndE hf
  have e2 : S2 = zsI (zsP S 0 x0 (some vr)) 1 x0 0 := by rw [e_S2, e_S1]
  have P2 : ∀ j a, (a ≠ x0 ∨ j ≠ 0) → zP S2 j a = zP S j a := fun j a h => by
    rw [e2]
    show va_up (zP S) 0 (va_up (zP S 0) x0 (some vr)) j a = zP S j a
    by_cases e : j = 0
    · subst e
      rw [va_up_self]
      exact va_up_ne _ _ (h.resolve_right (fun g => g rfl))
    · rw [va_up_ne _ _ e]
  have P20 : zP S2 0 x0 = some vr := by
    rw [e2]
    show va_up (zP S) 0 (va_up (zP S 0) x0 (some vr)) 0 x0 = some vr
    rw [va_up_self, va_up_self]
  have I2 : ∀ j a, a ≠ x0 → zI S2 j a = zI S j a := fun j a ha => by rw [e2, zI_b ha]; rfl
  have A2 : zA S2 = zA S := by rw [e2]; rfl
  have K2 : zK S2 = zK S := by rw [e2]; rfl
  have T1 : ZT S1 := e_S1.symm ▸ zt_P hT k5 (by decide) (Or.inr ⟨k6, rfl⟩) ⟨Nat.zero_le _, hrc⟩
  have T2 : ZT S2 := e_S2.symm ▸ zt_I T1 (show zK S1 x0 = 5 by rw [e_S1]; exact k5) (by decide) (show (0 : Int) ≤ (0 : Int32).toInt ∧ (0 : Int32).toInt ≤ (90100 : Int) by decide)
  have pb2 : zP S2 0 bb = some (bb + 1) := by rw [P2 0 bb (Or.inl (fun e => nx e.symm))]; exact pb
  have V2 : rwC S2 vr = V := by
    rw [← hV]
    funext i
    unfold rwC
    rw [I2 1 vr nv, P2 0 vr (Or.inl nv), A2]
  have hc2 : ∀ c, zP S2 0 vr = some c → c ≠ bb + 1 := fun c hc e => by
    rw [P2 0 vr (Or.inl nv)] at hc
    obtain ⟨b, hb, hb2, -⟩ := hT.2.1 vr k6
    rw [hb] at hc
    have e9 : b = c := Option.some.inj hc
    rw [e9, e] at hb2
    rcases hb2 with g | g
    · omega
    · rw [k14] at g; exact absurd g (by decide)
  obtain ⟨-, hf⟩ := m_chkE hf
  obtain ⟨⟨r3, S3c⟩, h_r3, hf⟩ := m_calE hf
  dsimp only at hf
  have T3 : ZT S3c := (ok_of (t_f_X0_wipe (SZ := S2) T2 (a7_0 S2) (by rw [K2]; exact k0)) h_r3).1
  obtain ⟨s3, m3, i33, i34, i35, i36, -, -⟩ := p_wipe pb2 h_r3
  dsimp only at s3 m3 i33 i34 i35 i36
  have J3 : PJ S2 S3c x0 vr bb V 0 (fun _ => 0) := ⟨pfr_b s3, ⟨by rw [K2]; exact k5, P20, by rw [K2]; exact k6⟩, ⟨by rw [K2]; exact k0, pb2⟩, ⟨V2, hVb, hc2⟩, by rw [s3.2.2.1 1 x0 nx, e_S2, zI_self]; rfl, by decide, m3⟩
  rw [← e2] at fail ⊢
  have M3 : MI S3c bb (fun _ => 0) (7 : Int32).toInt 0 := ⟨fun _ => show (0 : Int) ≤ 0 ∧ (0 : Int) ≤ 14 ∧ (0 : Int) ≠ 7 ∧ (0 : Int) ≠ 8 by decide, ki_0 (Or.inl rfl), ki_0 (Or.inr rfl), zr_0⟩
  obtain ⟨-, hf⟩ := m_chkE hf
  obtain ⟨⟨r4, S4c⟩, h_r4, hf⟩ := m_calE hf
  dsimp only at hf
  have h_r4' : f_X5_readMen_3 mFuel x0 bb 7 S3c = some (r4, S4c) := h_r4
  have T4 : ZT S4c := (ok_of (t_f_X5_readMen (SZ := S3c) T3 (a7_0 S3c) (pj_P J3).2.1 (pj_P J3).2.2.1) h_r4).1
  obtain ⟨i4, g4⟩ := men_c mFuel 7 S3c 0 (fun _ => 0) 8 rfl (by decide) J3 M3 (by decide) h_r4'
  dsimp only at i4 g4
  rcases m_ifE hf with ⟨c1, hf⟩ | ⟨c1, hf⟩
  · skip
    replace c1 := ti_eqP (a := r4) (b := (0 : Int32)) c1 rfl (show (0 : Int32).toInt = 0 from rfl)
    rcases g4 with ⟨a, -⟩ | ⟨-, a⟩
    · omega
    · exact fail S4c (fun m sd rt ps nb ⟨p1, h1, _⟩ => by rw [a] at h1; cases h1) hf
  · skip
    replace c1 := ti_eqN (a := r4) (b := (0 : Int32)) c1 rfl (show (0 : Int32).toInt = 0 from rfl)
    obtain ⟨p1, m, a2, J4, hp1, M4⟩ : ∃ p1 m, mhV V 8 0 (fun _ => 0) = some (p1, m) ∧ PJ S2 S4c x0 vr bb V p1 m ∧ p1 ≤ 0 + 9 * ((8 : Nat) : Int) ∧ MI S4c bb m (-1) 0 := by
      rcases g4 with ⟨-, q, m2, b⟩ | ⟨a, -⟩
      · exact ⟨q, m2, b⟩
      · omega
    have hp1' : p1 ≤ 72 := by
      have : ((8 : Nat) : Int) = 8 := rfl
      omega
    have p10 : 0 ≤ p1 := J4.2.2.2.2.2.1.1
    have uq : ∀ {m' sd' rt' ps' nb'}, FENp V n m' sd' rt' ps' nb' → m' = m ∧ V p1 = 32 ∧ ((V (p1 + 1) = 119 ∧ sd' = 0) ∨ (V (p1 + 1) = 98 ∧ sd' = 1)) ∧ V (p1 + 2) = 32 ∧ FEN2 V n m' sd' rt' ps' nb' (p1 + 3) := by
      rintro m' sd' rt' ps' nb' ⟨q, h1, h2⟩
      rw [a2] at h1
      have e := Option.some.inj h1
      have e1 : p1 = q := congrArg Prod.fst e
      have e3 : m = m' := congrArg Prod.snd e
      rw [e1]
      exact ⟨e3.symm, h2⟩
    obtain ⟨-, hf⟩ := m_chkE hf
    obtain ⟨⟨r5, S5c⟩, h_r5, hf⟩ := m_calE hf
    dsimp only at hf
    have T5 : ZT S5c := (ok_of (t_f_X5_skip (SZ := S4c) T4 (a7_0 S4c) (pj_P J4).2.1 (Or.inl (by decide))) h_r5).1
    obtain ⟨i5, g5⟩ := p_skipP J4 (by omega) h_r5
    dsimp only at i5 g5
    rw [z32] at g5
    rcases m_ifE hf with ⟨c2, hf⟩ | ⟨c2, hf⟩
    · skip
      replace c2 := ti_eqP (a := r5) (b := (0 : Int32)) c2 rfl (show (0 : Int32).toInt = 0 from rfl)
      rcases g5 with ⟨a, -⟩ | ⟨-, a, b⟩
      · omega
      · exact fail S5c (fun m sd rt ps nb h => a (uq h).2.1) hf
    · skip
      replace c2 := ti_eqN (a := r5) (b := (0 : Int32)) c2 rfl (show (0 : Int32).toInt = 0 from rfl)
      obtain ⟨v1, J5⟩ : V p1 = 32 ∧ PJ S2 S5c x0 vr bb V (p1 + 1) m := by
        rcases g5 with ⟨-, a⟩ | ⟨a, -⟩
        · exact a
        · omega
      obtain ⟨-, hf⟩ := m_chkE hf
      obtain ⟨⟨r6, S6c⟩, h_r6, hf⟩ := m_calE hf
      dsimp only at hf
      have T6 : ZT S6c := (ok_of (t_f_X5_readSide (SZ := S5c) T5 (a7_0 S5c) (pj_P J5).2.1 (pj_P J5).2.2.1) h_r6).1
      obtain ⟨i6, g6⟩ := p_side J5 (by omega) h_r6
      dsimp only at i6 g6
      rcases m_ifE hf with ⟨c3, hf⟩ | ⟨c3, hf⟩
      · skip
        replace c3 := ti_eqP (a := r6) (b := (0 : Int32)) c3 rfl (show (0 : Int32).toInt = 0 from rfl)
        rcases g6 with ⟨a, -⟩ | ⟨-, a, b⟩
        · omega
        · exact fail S6c (fun m sd rt ps nb h => by have := (uq h).2.2.1; omega) hf
      · skip
        replace c3 := ti_eqN (a := r6) (b := (0 : Int32)) c3 rfl (show (0 : Int32).toInt = 0 from rfl)
        obtain ⟨v2, J6⟩ : ((V (p1 + 1) = 119 ∧ (zI S6c 3 bb).toInt = 0) ∨ (V (p1 + 1) = 98 ∧ (zI S6c 3 bb).toInt = 1)) ∧ PJ S2 S6c x0 vr bb V (p1 + 1 + 1) m := by
          rcases g6 with ⟨-, a⟩ | ⟨a, -⟩
          · exact a
          · omega
        obtain ⟨sd, hsd⟩ : ∃ sd, (zI S6c 3 bb).toInt = sd := ⟨_, rfl⟩
        rw [hsd] at v2
        rw [show p1 + 1 + 1 = p1 + 2 by omega] at J6
        have hs2 : sd = 0 ∨ sd = 1 := by omega
        have uq2 : ∀ {m' sd' rt' ps' nb'}, FENp V n m' sd' rt' ps' nb' → V (p1 + 2) = 32 ∧ FEN2 V n m sd rt' ps' nb' (p1 + 3) := by
          intro m' sd' rt' ps' nb' h
          obtain ⟨a, -, c, d, e⟩ := uq h
          have e9 : sd' = sd := by omega
          rw [a, e9] at e
          exact ⟨d, e⟩
        obtain ⟨-, hf⟩ := m_chkE hf
        obtain ⟨⟨r7, S7c⟩, h_r7, hf⟩ := m_calE hf
        dsimp only at hf
        have T7 : ZT S7c := (ok_of (t_f_X5_skip (SZ := S6c) T6 (a7_0 S6c) (pj_P J6).2.1 (Or.inl (by decide))) h_r7).1
        obtain ⟨i7, g7⟩ := p_skipP J6 (by omega) h_r7
        dsimp only at i7 g7
        rw [z32] at g7
        rcases m_ifE hf with ⟨c4, hf⟩ | ⟨c4, hf⟩
        · skip
          replace c4 := ti_eqP (a := r7) (b := (0 : Int32)) c4 rfl (show (0 : Int32).toInt = 0 from rfl)
          rcases g7 with ⟨a, -⟩ | ⟨-, a, b⟩
          · omega
          · exact fail S7c (fun m sd rt ps nb h => a (uq2 h).1) hf
        · skip
          replace c4 := ti_eqN (a := r7) (b := (0 : Int32)) c4 rfl (show (0 : Int32).toInt = 0 from rfl)
          obtain ⟨v3, J7⟩ : V (p1 + 2) = 32 ∧ PJ S2 S7c x0 vr bb V (p1 + 2 + 1) m := by
            rcases g7 with ⟨-, a⟩ | ⟨a, -⟩
            · exact a
            · omega
          rw [show p1 + 2 + 1 = p1 + 3 by omega] at J7
          have f74 : (zI S7c 4 bb).toInt = 0 := by rw [i7, i6 4 (by decide), i5, i4 4 (by decide)]; exact i34
          have a7 : (zI S7c 1 x0).toInt = p1 + 3 := J7.2.2.2.2.1
          obtain ⟨p2, hp2⟩ : ∃ p2, (rgV V (p1 + 3)).1 = p2 := ⟨_, rfl⟩
          obtain ⟨rt, hrt⟩ : ∃ rt, (rgV V (p1 + 3)).2 = rt := ⟨_, rfl⟩
          obtain ⟨rg1, rg2, rg3, rg4⟩ := rg_rng (V := V) (p := p1 + 3)
          rw [hp2] at rg1 rg2
          rw [hrt] at rg3 rg4
          have uq3 : ∀ {m' sd' rt' ps' nb'}, FENp V n m' sd' rt' ps' nb' → (V (p1 + 3) = 45 ∨ rt ≠ 0) ∧ V p2 = 32 ∧ FEN3 V n m sd rt ps' nb' (p2 + 1) := by
            intro m' sd' rt' ps' nb' h
            obtain ⟨-, b, c, d, e⟩ := uq2 h
            rw [hp2] at d e
            rw [hrt] at b c
            rw [c] at e
            exact ⟨b, d, e⟩
          obtain ⟨-, hf⟩ := m_chkE hf
          obtain ⟨⟨r8, S8c⟩, h_r8, hf⟩ := m_calE hf
          dsimp only at hf
          have T8 : ZT S8c := (ok_of (t_f_X5_readRights (SZ := S7c) T7 (a7_0 S7c) (pj_P J7).2.1 (pj_P J7).2.2.1 (by omega)) h_r8).1
          obtain ⟨i8, b8, g8, g8'⟩ := p_rights J7 f74 (by omega) h_r8
          dsimp only at i8 b8 g8 g8'
          rw [hrt] at g8
          rw [hp2, hrt] at g8'
          rcases m_ifE hf with ⟨c5, hf⟩ | ⟨c5, hf⟩
          · skip
            replace c5 := ti_eqP (a := r8) (b := (0 : Int32)) c5 rfl (show (0 : Int32).toInt = 0 from rfl)
            exact fail S8c (fun m sd rt ps nb h => by have := g8.2 (uq3 h).1; omega) hf
          · skip
            replace c5 := ti_eqN (a := r8) (b := (0 : Int32)) c5 rfl (show (0 : Int32).toInt = 0 from rfl)
            have w8 := g8.1 (by omega)
            obtain ⟨J8, f84⟩ := g8' (by omega)
            obtain ⟨-, hf⟩ := m_chkE hf
            obtain ⟨⟨r9, S9c⟩, h_r9, hf⟩ := m_calE hf
            dsimp only at hf
            have T9 : ZT S9c := (ok_of (t_f_X5_skip (SZ := S8c) T8 (a7_0 S8c) (pj_P J8).2.1 (Or.inl (by decide))) h_r9).1
            obtain ⟨i9, g9⟩ := p_skipP J8 (by omega) h_r9
            dsimp only at i9 g9
            rw [z32] at g9
            rcases m_ifE hf with ⟨c6, hf⟩ | ⟨c6, hf⟩
            · skip
              replace c6 := ti_eqP (a := r9) (b := (0 : Int32)) c6 rfl (show (0 : Int32).toInt = 0 from rfl)
              rcases g9 with ⟨a, -⟩ | ⟨-, a, b⟩
              · omega
              · exact fail S9c (fun m sd rt ps nb h => a (uq3 h).2.1) hf
            · skip
              replace c6 := ti_eqN (a := r9) (b := (0 : Int32)) c6 rfl (show (0 : Int32).toInt = 0 from rfl)
              obtain ⟨v4, J9⟩ : V p2 = 32 ∧ PJ S2 S9c x0 vr bb V (p2 + 1) m := by
                rcases g9 with ⟨-, a⟩ | ⟨a, -⟩
                · exact a
                · omega
              have f95 : (zI S9c 5 bb).toInt = -1 := by rw [i9, i8 5 (by decide), i7, i6 5 (by decide), i5, i4 5 (by decide)]; exact i35
              have a9 : (zI S9c 1 x0).toInt = p2 + 1 := J9.2.2.2.2.1
              obtain ⟨p3, hp3⟩ : ∃ p3, (psV V (p2 + 1)).1 = p3 := ⟨_, rfl⟩
              obtain ⟨ps, hps⟩ : ∃ ps, (psV V (p2 + 1)).2 = ps := ⟨_, rfl⟩
              obtain ⟨ps1, ps2, ps3, ps4⟩ := ps_rng (V := V) (p := p2 + 1)
              rw [hp3] at ps1 ps2
              rw [hps] at ps3 ps4
              have uq4 : ∀ {m' sd' rt' ps' nb'}, FENp V n m' sd' rt' ps' nb' → (V (p2 + 1) = 45 ∨ ps ≠ -1) ∧ V p3 = 32 ∧ FEN4 V n m sd rt ps nb' (p3 + 1) := by
                intro m' sd' rt' ps' nb' h
                obtain ⟨-, -, b, c, d, e⟩ := uq3 h
                rw [hp3] at d e
                rw [hps] at b c
                rw [c] at e
                exact ⟨b, d, e⟩
              obtain ⟨-, hf⟩ := m_chkE hf
              obtain ⟨⟨r10, S10c⟩, h_r10, hf⟩ := m_calE hf
              dsimp only at hf
              have T10 : ZT S10c := (ok_of (t_f_X5_readPassed (SZ := S9c) T9 (a7_0 S9c) (pj_P J9).2.1 (pj_P J9).2.2.1 (by omega)) h_r10).1
              obtain ⟨i10, b10, g10, g10'⟩ := p_passed J9 f95 (by omega) h_r10
              dsimp only at i10 b10 g10 g10'
              rw [hps] at g10
              rw [hp3, hps] at g10'
              rcases m_ifE hf with ⟨c7, hf⟩ | ⟨c7, hf⟩
              · skip
                replace c7 := ti_eqP (a := r10) (b := (0 : Int32)) c7 rfl (show (0 : Int32).toInt = 0 from rfl)
                exact fail S10c (fun m sd rt ps nb h => by have := g10.2 (uq4 h).1; omega) hf
              · skip
                replace c7 := ti_eqN (a := r10) (b := (0 : Int32)) c7 rfl (show (0 : Int32).toInt = 0 from rfl)
                have w10 := g10.1 (by omega)
                obtain ⟨J10, f105⟩ := g10' (by omega)
                obtain ⟨-, hf⟩ := m_chkE hf
                obtain ⟨⟨r11, S11c⟩, h_r11, hf⟩ := m_calE hf
                dsimp only at hf
                have T11 : ZT S11c := (ok_of (t_f_X5_skip (SZ := S10c) T10 (a7_0 S10c) (pj_P J10).2.1 (Or.inl (by decide))) h_r11).1
                obtain ⟨i11, g11⟩ := p_skipP J10 (by omega) h_r11
                dsimp only at i11 g11
                rw [z32] at g11
                rcases m_ifE hf with ⟨c8, hf⟩ | ⟨c8, hf⟩
                · skip
                  replace c8 := ti_eqP (a := r11) (b := (0 : Int32)) c8 rfl (show (0 : Int32).toInt = 0 from rfl)
                  rcases g11 with ⟨a, -⟩ | ⟨-, a, b⟩
                  · omega
                  · exact fail S11c (fun m sd rt ps nb h => a (uq4 h).2.1) hf
                · skip
                  replace c8 := ti_eqN (a := r11) (b := (0 : Int32)) c8 rfl (show (0 : Int32).toInt = 0 from rfl)
                  obtain ⟨v5, J11⟩ : V p3 = 32 ∧ PJ S2 S11c x0 vr bb V (p3 + 1) m := by
                    rcases g11 with ⟨-, a⟩ | ⟨a, -⟩
                    · exact a
                    · omega
                  have n3 := nd3_b (V := V) (p := p3 + 1)
                  obtain ⟨-, hf⟩ := m_chkE hf
                  obtain ⟨⟨r12, S12c⟩, h_r12, hf⟩ := m_calE hf
                  dsimp only at hf
                  have T12 : ZT S12c := (ok_of (t_f_X5_readNumber (SZ := S11c) T11 (a7_0 S11c) (pj_P J11).2.1) h_r12).1
                  obtain ⟨i12, q12, J12⟩ := p_number J11 (by omega) h_r12
                  dsimp only at i12 q12 J12
                  rcases m_ifE hf with ⟨c9, hf⟩ | ⟨c9, hf⟩
                  · skip
                    replace c9 := ti_ltP (a := r12) (b := (0 : Int32)) c9 rfl (show (0 : Int32).toInt = 0 from rfl)
                    exact fail S12c (fun m sd rt ps nb h => by have := (uq4 h).2.2.1; omega) hf
                  · skip
                    replace c9 := ti_ltN (a := r12) (b := (0 : Int32)) c9 rfl (show (0 : Int32).toInt = 0 from rfl)
                    obtain ⟨-, hf⟩ := m_chkE hf
                    obtain ⟨⟨r13, S13c⟩, h_r13, hf⟩ := m_calE hf
                    dsimp only at hf
                    have T13 : ZT S13c := (ok_of (t_f_X5_skip (SZ := S12c) T12 (a7_0 S12c) (pj_P J12).2.1 (Or.inl (by decide))) h_r13).1
                    obtain ⟨i13, g13⟩ := p_skipP J12 (by omega) h_r13
                    dsimp only at i13 g13
                    rw [z32] at g13
                    rcases m_ifE hf with ⟨c10, hf⟩ | ⟨c10, hf⟩
                    · skip
                      replace c10 := ti_eqP (a := r13) (b := (0 : Int32)) c10 rfl (show (0 : Int32).toInt = 0 from rfl)
                      rcases g13 with ⟨a, -⟩ | ⟨-, a, b⟩
                      · omega
                      · exact fail S13c (fun m sd rt ps nb h => a (uq4 h).2.2.2.1) hf
                    · skip
                      replace c10 := ti_eqN (a := r13) (b := (0 : Int32)) c10 rfl (show (0 : Int32).toInt = 0 from rfl)
                      obtain ⟨v6, J13⟩ : V (p3 + 1 + nd3 V (p3 + 1)) = 32 ∧ PJ S2 S13c x0 vr bb V (p3 + 1 + nd3 V (p3 + 1) + 1) m := by
                        rcases g13 with ⟨-, a⟩ | ⟨a, -⟩
                        · exact a
                        · omega
                      have n4 := nd3_b (V := V) (p := p3 + 1 + nd3 V (p3 + 1) + 1)
                      obtain ⟨-, hf⟩ := m_chkE hf
                      obtain ⟨⟨r14, S14c⟩, h_r14, hf⟩ := m_calE hf
                      dsimp only at hf
                      have T14 : ZT S14c := (ok_of (t_f_X5_readMoveNumber (SZ := S13c) T13 (a7_0 S13c) (pj_P J13).2.1 (pj_P J13).2.2.1) h_r14).1
                      obtain ⟨i14, q14, b14, g14, J14⟩ := p_moveNumber J13 (by omega) h_r14
                      dsimp only at i14 q14 b14 g14 J14
                      obtain ⟨P14, -, k14b, pb14⟩ := pj_P J14
                      have at14 : (zI S14c 1 x0).toInt = p3 + 1 + nd3 V (p3 + 1) + 1 + nd3 V (p3 + 1 + nd3 V (p3 + 1) + 1) := J14.2.2.2.2.1
                      have sz14 : (zI S14c 1 vr).toInt = n := by rw [J14.1.2.2.1 1 vr nv nb', I2 1 vr nv]; exact hn
                      have m14 : mCb S14c bb = m := J14.2.2.2.2.2.2
                      have f3 : (zI S14c 3 bb).toInt = sd := by rw [i14 3 (by decide), i13, i12, i11, i10 3 (by decide), i9, i8 3 (by decide), i7]; exact hsd
                      have f4 : (zI S14c 4 bb).toInt = rt := by rw [i14 4 (by decide), i13, i12, i11, i10 4 (by decide), i9]; exact f84
                      have f5 : (zI S14c 5 bb).toInt = ps := by rw [i14 5 (by decide), i13, i12, i11]; exact f105
                      have f1 : zI S14c 1 bb = zI S4c 1 bb := by rw [i14 1 (by decide), i13, i12, i11, i10 1 (by decide), i9, i8 1 (by decide), i7, i6 1 (by decide), i5]
                      have f2 : zI S14c 2 bb = zI S4c 2 bb := by rw [i14 2 (by decide), i13, i12, i11, i10 2 (by decide), i9, i8 2 (by decide), i7, i6 2 (by decide), i5]
                      obtain ⟨M1, M2, M3', -⟩ := M4
                      rw [← f1] at M2
                      rw [← f2] at M3'
                      have sq := snd_eq (rt := rt) (ps := ps) hs2 M2 M3'
                      rcases m_ifE hf with ⟨c11, hf⟩ | ⟨c11, hf⟩
                      · skip
                        replace c11 := ti_eqP (a := r14) (b := (0 : Int32)) c11 rfl (show (0 : Int32).toInt = 0 from rfl)
                        exact fail S14c (fun m sd rt ps nb h => by have := g14.2 (uq4 h).2.2.2.2.1; omega) hf
                      · skip
                        replace c11 := ti_eqN (a := r14) (b := (0 : Int32)) c11 rfl (show (0 : Int32).toInt = 0 from rfl)
                        obtain ⟨-, hf⟩ := m_chkE hf
                        obtain ⟨-, hf⟩ := m_chkE hf
                        replace hf := m_calY hf P14
                        obtain ⟨-, hf⟩ := m_chkE hf
                        obtain ⟨r16, h_r16, hf⟩ := m_calR hf (fun _ h => ro_X6_size h)
                        dsimp only at hf
                        have p_r16 := pc_X6_size h_r16
                        dsimp only at p_r16
                        have q16 : r16.toInt = n := by rw [p_r16]; exact sz14
                        rcases m_ifE hf with ⟨c12, hf⟩ | ⟨c12, hf⟩
                        · skip
                          replace c12 := ti_eqP (a := (zI S14c 1 x0)) (b := r16) c12 rfl rfl
                          obtain ⟨r17, h_r17, hf⟩ := m_calR hf (fun _ h => ro_X5_hasSoundMen h)
                          dsimp only at hf
                          obtain ⟨b17, q17⟩ := sm_6 T14 k14b pb14 m14 M1 f3 hs2 rfl mFuel 0 0 0 (by decide) (by rw [show (0 : Int32).toInt.toNat = 0 from rfl]; rfl) (by rw [show (0 : Int32).toInt.toNat = 0 from rfl]; rfl) (fun s s0 s1 => by omega) (show f_X5_hasSoundMen_6 mFuel bb 0 0 0 S14c = some _ from h_r17)
                          dsimp only at b17 q17
                          rcases m_ifE hf with ⟨c13, hf⟩ | ⟨c13, hf⟩
                          · skip
                            replace c13 := ti_eqP (a := r17) (b := (0 : Int32)) c13 rfl (show (0 : Int32).toInt = 0 from rfl)
                            exact fail S14c (fun m sd rt ps nb h => by have := q17.2 (sq.1 (uq4 h).2.2.2.2.2.2.2).1; omega) hf
                          · skip
                            replace c13 := ti_eqN (a := r17) (b := (0 : Int32)) c13 rfl (show (0 : Int32).toInt = 0 from rfl)
                            obtain ⟨r18, h_r18, hf⟩ := m_calR hf (fun _ h => ro_X5_hasSoundRights h)
                            dsimp only at hf
                            obtain ⟨b18, q18⟩ := sr_2 k14b pb14 m14 f4 ⟨rg3, rg4⟩ mFuel 0 (by decide) (fun i i0 i1 => by omega) (show f_X5_hasSoundRights_2 mFuel bb 0 S14c = some _ from h_r18)
                            dsimp only at b18 q18
                            rcases m_ifE hf with ⟨c14, hf⟩ | ⟨c14, hf⟩
                            · skip
                              replace c14 := ti_eqP (a := r18) (b := (0 : Int32)) c14 rfl (show (0 : Int32).toInt = 0 from rfl)
                              exact fail S14c (fun m sd rt ps nb h => by have := q18.2 (sq.1 (uq4 h).2.2.2.2.2.2.2).2.1; omega) hf
                            · skip
                              replace c14 := ti_eqN (a := r18) (b := (0 : Int32)) c14 rfl (show (0 : Int32).toInt = 0 from rfl)
                              obtain ⟨r19, h_r19, hf⟩ := m_calR hf (fun _ h => ro_X5_hasSoundPassed h)
                              dsimp only at hf
                              obtain ⟨b19, q19⟩ := p_soundPassed T14 k14b pb14 m14 f3 hs2 f5 ⟨ps3, ps4⟩ h_r19
                              dsimp only at b19 q19
                              rcases m_ifE hf with ⟨c15, hf⟩ | ⟨c15, hf⟩
                              · skip
                                replace c15 := ti_eqP (a := r19) (b := (0 : Int32)) c15 rfl (show (0 : Int32).toInt = 0 from rfl)
                                exact fail S14c (fun m sd rt ps nb h => by have := q19.2 (sq.1 (uq4 h).2.2.2.2.2.2.2).2.2; omega) hf
                              · skip
                                replace c15 := ti_eqN (a := r19) (b := (0 : Int32)) c15 rfl (show (0 : Int32).toInt = 0 from rfl)
                                unfold f_X5_readInto_146 at hf
                                obtain ⟨-, hf⟩ := m_chkE hf
                                cases hf
                                try dsimp only
                                have snd := sq.2 ⟨q17.1 (by omega), q18.1 (by omega), q19.1 (by omega)⟩
                                refine Or.inl ⟨rfl, J14.1, m, sd, rt, ps, numC V (p3 + 1 + nd3 V (p3 + 1) + 1), ⟨p1, a2, v1, v2, v3, ?_⟩, m14, M1, f3, f4, f5, q14, M2, M3'⟩
                                refine ⟨by rw [hrt]; exact w8, hrt.symm, by rw [hp2]; exact v4, ?_⟩
                                rw [hp2]
                                refine ⟨by rw [hps]; exact w10, hps.symm, by rw [hp3]; exact v5, ?_⟩
                                rw [hp3]
                                exact ⟨by omega, v6, g14.1 (by omega), rfl, by omega, snd⟩
                        · skip
                          replace c12 := ti_eqN (a := (zI S14c 1 x0)) (b := r16) c12 rfl rfl
                          exact fail S14c (fun m sd rt ps nb h => by have := (uq4 h).2.2.2.2.2.2.1; omega) hf
end RIN
