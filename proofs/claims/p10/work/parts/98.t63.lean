/-- what stays while moves of game g are read -/
noncomputable def KPm (S0 : ZS) (g g' a : Nat) : Prop := KPc S0 g' a ∨ a = g + 1 ∨ a = g + 2 ∨ a = g + 6 ∨ ∃ i n, zB S0 (g + 6) i = some n ∧ (a = n ∨ a = n + 1 ∨ a = n + 2)
section KMS
variable {S0 S S' : ZS} {g g' : Nat} {W : Nat → Prop}
theorem fr_mc (h : FR (fun a => ¬ KPm S0 g g' a) S S') : FR (fun a => ¬ KPc S0 g' a) S S' := fr_m h (fun a _ hn hk => hn (Or.inl hk))
theorem km_B (hg : GG g g') (hF : FR (fun a => ¬ KPm S0 g g' a) S0 S) (hX : FIX S0) : zB S (g + 6) = zB S0 (g + 6) := by
  have b : (g = 35 ∧ g' = 99) ∨ (g = 99 ∧ g' = 35) := hg
  exact (fr_e hF (fx_l hX (by omega) (by omega)) (fun n => n (Or.inr (Or.inr (Or.inr (Or.inl rfl)))))).2.2.2.2.1
theorem km_of {a : Nat} (hg : GG g g') (hF : FR (fun a => ¬ KPm S0 g g' a) S0 S) (hX : FIX S0) (h1 : ¬ KPc S0 g' a) (ha : a ≠ g + 1 ∧ a ≠ g + 2 ∧ a ≠ g + 6) (ht : ∀ i n, zB S (g + 6) i = some n → a ≠ n ∧ a ≠ n + 1 ∧ a ≠ n + 2) : ¬ KPm S0 g g' a := by
  rintro (h | h | h | h | ⟨i, n, h2, h3⟩)
  · exact h1 h
  · exact ha.1 h
  · exact ha.2.1 h
  · exact ha.2.2 h
  · rw [← km_B hg hF hX] at h2
    have := ht i n h2
    omega
theorem km_fix {a : Nat} (hC : CG S) (hg : GG g g') (hF : FR (fun a => ¬ KPm S0 g g' a) S0 S) (hX : FIX S0) (h1 : (23 ≤ a ∧ a ≤ 34) ∨ (43 ≤ a ∧ a ≤ 76) ∨ a = g ∨ a = g + 3 ∨ a = g + 4 ∨ a = g + 5 ∨ a = g + 7) : ¬ KPm S0 g g' a := by
  have b : (g = 35 ∧ g' = 99) ∨ (g = 99 ∧ g' = 35) := hg
  refine km_of hg hF hX (kp_fix hC hg (fr_mc hF) hX (by omega)) (by omega) (fun i n hn => ?_)
  have := ((gm_of hC (gg_g hg)).2 i n hn).1
  omega
theorem km_tc {a : Nat} (hC : CG S) (hg : GG g g') (hF : FR (fun a => ¬ KPm S0 g g' a) S0 S) (hX : FIX S0) (h : TCl S g a) : ¬ KPm S0 g g' a := by
  have G := gm_of hC (gg_g hg)
  rcases h with h | h | h | h | ⟨i, n, h1, h2⟩
  · exact km_fix hC hg hF hX (by omega)
  · exact km_fix hC hg hF hX (by omega)
  · exact km_fix hC hg hF hX (by omega)
  · exact km_fix hC hg hF hX (by omega)
  · obtain ⟨k1, k2⟩ := kp_node hC hg (fr_mc hF) hX h1
    obtain ⟨a1, a2, -, a4⟩ := G.1 i n h1
    have b : (g = 35 ∧ g' = 99) ∨ (g = 99 ∧ g' = 35) := hg
    rcases h2 with e | e <;> subst e
    · refine km_of hg hF hX k1 (by omega) (fun j m hm => ⟨fun e => ?_, fun e => ?_, fun e => ?_⟩)
      · have := (G.2 j m hm).2.1; rw [← e, a2] at this; omega
      · have := (G.2 j m hm).2.2.2.2.1; rw [← e, a2] at this; omega
      · have := (G.2 j m hm).2.2.2.2.2; rw [← e, a2] at this; omega
    · refine km_of hg hF hX k2 (by omega) (fun j m hm => ⟨fun e => ?_, fun e => ?_, fun e => ?_⟩)
      · have := (G.2 j m hm).2.1; rw [← e, a4] at this; omega
      · have e' : n = m := by omega
        have := (G.2 j m hm).2.1; rw [← e', a2] at this; omega
      · have e' : n = m + 1 := by omega
        have := (G.2 j m hm).2.2.2.2.1; rw [← e', a2] at this; omega
/-- cells of other kinds don't touch the trees' shape -/
theorem tz_k (hT : ZT S) (h : TZ S) (hF : FR W S S') (hk : ∀ a, zK S a < 18 → W a → zK S a ≠ 16 ∧ zK S a ≠ 1 ∧ (zK S a = 4 → zI S' 0 a = zI S 0 a ∧ zI S' 2 a = zI S 2 a ∧ zI S' 3 a = zI S 3 a)) : TZ S' := by
  refine tz_x hT h (fun a ha => fr_k hF ha) (fun a j ha _ => (hF a (by rw [ha]; decide)).1.2.2.1 (by rw [ha]; rfl) j) (fun a ha => ?_) (fun a ha => ?_) (fun a ha => ?_)
  · exact (fr_e hF (by rw [ha]; decide) (fun hw => (hk a (by rw [ha]; decide) hw).1 ha)).2.2.2.2.1
  · by_cases hw : W a
    · exact (hk a (by rw [ha]; decide) hw).2.2 ha
    · have e := fr_e hF (by rw [ha]; decide) hw
      exact ⟨e.2.2.1 0, e.2.2.1 2, e.2.2.1 3⟩
  · exact (fr_e hF (by rw [ha]; decide) (fun hw => (hk a (by rw [ha]; decide) hw).2.1 ha)).2.2.1 3
end KMS
/-- the class while it reads moves into game g: place p, start position st, tree T -/
noncomputable def CSt (S0 S : ZS) (g g' : Nat) (ch : Int → Int) (N p : Int) (st : PO) (T : TRa) : Prop := CG S ∧ (GG g g' ∧ FIX S0 ∧ FR (fun a => ¬ KPm S0 g g' a) S0 S) ∧ LW S ch N p ∧ p ≤ N ∧ zP S 3 23 = some g ∧ TRc S g T ∧ (WT T ∧ LTr st T) ∧ zI S 5 g = zI S0 5 g
/-- a refusal leaves this -/
noncomputable def CSn (S0 S : ZS) (g g' : Nat) : Prop := CG S ∧ FR (fun a => ¬ KPm S0 g g' a) S0 S ∧ zI S 5 g = zI S0 5 g
section CSS
variable {S0 S S' : ZS} {g g' : Nat} {ch : Int → Int} {N p q : Int} {st : PO} {T T' : TRa} {W : Nat → Prop}
theorem cs_n (h : CSt S0 S g g' ch N p st T) : CSn S0 S g g' := ⟨h.1, h.2.1.2.2, h.2.2.2.2.2.2.2⟩
/-- a step that keeps all but W -/
theorem cs_mk (h : CSt S0 S g g' ch N p st T) (hC : CG S') (hF : FR W S S') (hW : ∀ a, zK S a < 18 → W a → ¬ KPm S0 g g' a) (h5 : zI S' 5 g = zI S 5 g) (hL : LW S' ch N q) (hq : q ≤ N) (hT : TRc S' g T') (hw : WT T') (hl : LTr st T') : CSt S0 S' g g' ch N q st T' := by
  obtain ⟨c, ⟨hg, hX, hF0⟩, l, -, p3, -, -, i5⟩ := h
  have k23 := l.2.1.1
  exact ⟨hC, ⟨hg, hX, fr_t hF0 (fr_m hF hW)⟩, hL, hq, ((hF 23 (by rw [k23]; decide)).1.2.2.1 (by rw [k23]; rfl) 3).trans p3, hT, ⟨hw, hl⟩, h5.trans i5⟩
theorem cn_mk (h : CSn S0 S g g') (hC : CG S') (hF : FR W S S') (hW : ∀ a, zK S a < 18 → W a → ¬ KPm S0 g g' a) (h5 : zI S' 5 g = zI S 5 g) : CSn S0 S' g g' := ⟨hC, fr_t h.2.1 (fr_m hF hW), h5.trans h.2.2⟩
/-- W of fixed cells of the reader -/
noncomputable def WRd (a : Nat) : Prop := (23 ≤ a ∧ a ≤ 34) ∨ (43 ≤ a ∧ a ≤ 76)
theorem wr_k (hC : CG S) {a : Nat} (h : WRd a) : zK S a ≠ 16 ∧ zK S a ≠ 1 ∧ zK S a ≠ 4 := by
  have b : 1 ≤ a ∧ a ≤ 108 := by unfold WRd at h; omega
  rw [fx_k hC.2.2.1 b.1 b.2]
  have key : ∀ a, a ≤ 108 → ((23 ≤ a ∧ a ≤ 34) ∨ (43 ≤ a ∧ a ≤ 76)) → fxK a ≠ 16 ∧ fxK a ≠ 1 ∧ fxK a ≠ 4 := by decide
  exact key a b.2 h
theorem cg_rd (hC : CG S) (hT : ZT S') (hF : FR W S S') (hW : ∀ a, W a → WRd a) : CG S' := by
  refine cg_w hC hT (tz_k hC.1 hC.2.1 hF (fun a _ hw => ?_)) hF (fun h => ?_) (fun h => ?_) (fun h => ?_) (fun h => ?_)
  · obtain ⟨a1, a2, a3⟩ := wr_k hC (hW a hw)
    exact ⟨a1, a2, fun e => absurd e a3⟩
  · have := hW _ h; unfold WRd at this; omega
  · have := hW _ h; unfold WRd at this; omega
  · have := hW _ h; unfold WRd at this; omega
  · have := hW _ h; unfold WRd at this; omega
theorem tc_wr (hC : CG S) (hg : g = 35 ∨ g = 99) {a : Nat} (h : TCl S g a) : ¬ WRd a := by
  unfold WRd
  rcases h with h | h | h | h | ⟨i, n, h1, h2⟩
  · omega
  · omega
  · omega
  · omega
  · have := ((gm_of hC hg).1 i n h1).1
    omega
/-- a step within the reader's own cells -/
theorem cs_rd (h : CSt S0 S g g' ch N p st T) (hL : LW S' ch N q) (hq : q ≤ N) (hF : FR W S S') (hW : ∀ a, W a → WRd a) : CSt S0 S' g g' ch N q st T := by
  obtain ⟨c, ⟨hg, hX, hF0⟩, l, -, p3, tr, ⟨hw, hl⟩, -⟩ := id h
  have hb : (g = 35 ∧ g' = 99) ∨ (g = 99 ∧ g' = 35) := hg
  refine cs_mk h (cg_rd c hL.1 hF hW) hF (fun a _ hwa => km_fix c hg hF0 hX (by have := hW a hwa; unfold WRd at this; omega)) ?_ hL hq (trc_e c (gg_g hg) tr (fun a ha => ?_)) hw hl
  · exact (fr_e hF (fx_l c.2.2.1 (by omega) (by omega)) (fun hwa => by have := hW _ hwa; unfold WRd at this; omega)).2.2.1 5
  · have kl : zK S a < 18 := by
      obtain ⟨⟨kg, -⟩, ⟨-, -, k3, k4, k5, -⟩, -⟩ := fx_g c.2.2.1 (gg_g hg)
      rcases ha with e | e | e | e | ⟨i, n, h1, h2⟩
      · rw [e, kg]; decide
      · rw [e, k3]; decide
      · rw [e, k4]; decide
      · rw [e, k5]; decide
      · obtain ⟨-, a2, -, a4⟩ := (gm_of c (gg_g hg)).1 i n h1
        rcases h2 with e | e <;> rw [e]
        · rw [a2]; decide
        · rw [a4]; decide
    exact fr_e hF kl (fun hwa => tc_wr c (gg_g hg) ha (hW a hwa))
theorem cn_rd (h : CSn S0 S g g') (hg : GG g g') (hX : FIX S0) (hT : ZT S') (hF : FR W S S') (hW : ∀ a, W a → WRd a) : CSn S0 S' g g' := by
  have hb : (g = 35 ∧ g' = 99) ∨ (g = 99 ∧ g' = 35) := hg
  refine cn_mk h (cg_rd h.1 hT hF hW) hF (fun a _ hwa => km_fix h.1 hg h.2.1 hX (by have := hW a hwa; unfold WRd at this; omega)) ?_
  exact (fr_e hF (fx_l h.1.2.2.1 (by omega) (by omega)) (fun hwa => by have := hW _ hwa; unfold WRd at this; omega)).2.2.1 5
theorem tc_lt (hC : CG S) (hg : g = 35 ∨ g = 99) {a : Nat} (ha : TCl S g a) : zK S a < 18 := by
  obtain ⟨⟨kg, -⟩, ⟨-, -, k3, k4, k5, -⟩, -⟩ := fx_g hC.2.2.1 hg
  rcases ha with e | e | e | e | ⟨i, n, h1, h2⟩
  · rw [e, kg]; decide
  · rw [e, k3]; decide
  · rw [e, k4]; decide
  · rw [e, k5]; decide
  · obtain ⟨-, a2, -, a4⟩ := (gm_of hC hg).1 i n h1
    rcases h2 with e | e <;> rw [e]
    · rw [a2]; decide
    · rw [a4]; decide
/-- node k's address -/
theorem nk_ne (hC : CG S) (hg : g = 35 ∨ g = 99) (k : Nat) {a : Nat} (ha : 1 ≤ a) (hb : a ≤ 108) (h3 : a ≠ g + 3) (h4 : a ≠ g + 4) : nk S (g + 3) (g + 5) k ≠ a ∧ nk S (g + 3) (g + 5) k + 1 ≠ a := by
  rcases nk_or (S := S) (r := g + 3) (b := g + 5) (k := k) with h | h
  · rw [h]; omega
  · have := ((gm_of hC hg).1 k _ h).1
    omega
end CSS
section CSM
variable {S0 S S' : ZS} {g g' k : Nat} {ch : Int → Int} {N p q : Int} {st : PO} {T : TRa} {o : Int32 × ZS}
/-- the remarks of node k are read -/
theorem cs_rk (h : CSt S0 S g g' ch N p st T) (hk : k ≤ tn T) (hf : d_X2_readRemarks 23 (nk S (g + 3) (g + 5) k) S = some o) : (∃ e w, rmkP ch N 2001 (blk ch p) (tR T k) = some (e, w) ∧ o.1.toInt = 1 ∧ CSt S0 o.2 g g' ch N e st (rkT T k w) ∧ FR (fun a => a = 23 ∨ a = nk S (g + 3) (g + 5) k + 1) S o.2) ∨ (rmkP ch N 2001 (blk ch p) (tR T k) = none ∧ o.1.toInt = 0 ∧ CSn S0 o.2 g g') := by
  obtain ⟨c, ⟨hg, hX, hF0⟩, l, hpN, p3, tr, ⟨hw, hl⟩, i5⟩ := id h
  have hgr := gg_g hg
  have nd := trc_nd c hgr tr hk
  have hr := (hw.2.2.1 k).1
  have kk := (nk_nd c hgr k).1
  obtain ⟨-, RP', -⟩ := ok_of (t_d_X2_readRemarks (SZ := S) c.1 (rp_0 S) l.2.1.1 kk) hf
  have hb : (g = 35 ∧ g' = 99) ∨ (g = 99 ∧ g' = 35) := hg
  have hZ : TZ o.2 := RP'.2.1 c.2.1
  have n1 := fun a h1 h2 h3 h4 => (nk_ne c hgr k (a := a) h1 h2 h3 h4).2
  have cg' : ZT o.2 → FR (fun a => a = 23 ∨ a = nk S (g + 3) (g + 5) k + 1) S o.2 → CG o.2 := fun hT' hF => cg_w c hT' hZ hF (by rintro (e | e); omega; exact n1 40 (by decide) (by decide) (by omega) (by omega) e.symm) (by rintro (e | e); omega; exact n1 41 (by decide) (by decide) (by omega) (by omega) e.symm) (by rintro (e | e); omega; exact n1 104 (by decide) (by decide) (by omega) (by omega) e.symm) (by rintro (e | e); omega; exact n1 105 (by decide) (by decide) (by omega) (by omega) e.symm)
  have wk : ∀ a, zK S a < 18 → (a = 23 ∨ a = nk S (g + 3) (g + 5) k + 1) → ¬ KPm S0 g g' a := fun a _ e => e.elim (fun e => km_fix c hg hF0 hX (by omega)) (fun e => by rw [e]; exact km_tc c hg hF0 hX (tc_nk k).2)
  have g5 : ∀ hF : FR (fun a => a = 23 ∨ a = nk S (g + 3) (g + 5) k + 1) S o.2, zI o.2 5 g = zI S 5 g := fun hF => (fr_e hF (fx_l c.2.2.1 (by omega) (by omega)) (by rintro (e | e); omega; exact n1 g (by omega) (by omega) (by omega) (by omega) e.symm)).2.2.1 5
  rcases p_readRemarks l hpN nd (by omega) hf with ⟨e, w, a1, a2, a3, a4, a5, a6⟩ | ⟨a1, a2, ⟨p', a3⟩, a4⟩
  · have tr' : TRc o.2 g (rkT T k w) := trc_rk c hg tr hk (fun a ha hne => fr_e a5 (tc_lt c hgr ha) (by
      rintro (e | e)
      · exact tc_wr c hgr ha (by unfold WRd; omega)
      · exact hne e)) a6.2
    exact Or.inl ⟨e, w, a1, a2, cs_mk h (cg' a4.1 a5) a5 wk (g5 a5) a4 a3.2 tr' (wt_rk hw (by omega)) hl, a5⟩
  · exact Or.inr ⟨a1, a2, cn_mk (cs_n h) (cg' a3.1 a4) a4 wk (g5 a4)⟩
end CSM
