/-- the kinds of the class's fixed cells -/
noncomputable def fxK (a : Nat) : Nat := ([99, 11, 6, 6, 7, 0, 14, 0, 14, 8, 7, 0, 14, 0, 14, 6, 14, 9, 7, 0, 14, 0, 14, 2, 8, 7, 0, 14, 0, 14, 6, 14, 5, 6, 6, 1, 0, 14, 4, 6, 16, 17, 14, 6, 6, 14, 14, 15, 15, 0, 14, 0, 14, 0, 14, 0, 14, 0, 14, 0, 14, 0, 14, 0, 14, 0, 14, 0, 14, 0, 14, 0, 14, 0, 14, 0, 14, 3, 9, 7, 0, 14, 0, 14, 15, 0, 14, 0, 14, 0, 14, 0, 14, 0, 14, 0, 14, 0, 14, 1, 0, 14, 4, 6, 16, 17, 14, 0, 14] : List Nat).getD a 99
/-- references that never change: cell, slot, to -/
noncomputable def fxL : List (Nat × Nat × Nat) := [(1, 0, 2), (1, 1, 3), (1, 2, 4), (1, 3, 9), (1, 4, 17), (1, 5, 23), (1, 6, 77), (1, 9, 107), (4, 0, 5), (4, 1, 7), (9, 0, 10), (9, 1, 15), (9, 10, 16), (10, 0, 11), (10, 1, 13), (17, 0, 18), (18, 0, 19), (18, 1, 21), (23, 0, 24), (23, 1, 32), (23, 6, 43), (23, 7, 44), (23, 8, 45), (23, 9, 46), (23, 10, 47), (23, 11, 48), (24, 0, 25), (24, 1, 30), (24, 10, 31), (25, 0, 26), (25, 1, 28), (35, 0, 36), (35, 1, 38), (35, 2, 40), (35, 4, 41), (35, 7, 42), (38, 6, 39), (99, 0, 100), (99, 1, 102), (99, 2, 104), (99, 4, 105), (99, 7, 106), (102, 6, 103), (77, 0, 78), (77, 1, 84), (78, 0, 79), (79, 0, 80), (79, 1, 82), (5, 0, 6), (7, 0, 8), (11, 0, 12), (13, 0, 14), (19, 0, 20), (21, 0, 22), (26, 0, 27), (28, 0, 29), (36, 0, 37), (80, 0, 81), (82, 0, 83), (100, 0, 101), (107, 0, 108)]
/-- boards in rows: cell, how many -/
noncomputable def FIX (S : ZS) : Prop := (∀ a, 1 ≤ a → a ≤ 108 → zK S a = fxK a) ∧ (∀ t ∈ fxL, zP S t.2.1 t.1 = some t.2.2) ∧ (∀ d, d < 14 → zP S 0 (49 + 2 * d) = some (50 + 2 * d)) ∧ (∀ d, d < 7 → zP S 0 (85 + 2 * d) = some (86 + 2 * d)) ∧ (∀ d, d < 7 → zB S 47 d = some (49 + 4 * d) ∧ zB S 48 d = some (51 + 4 * d) ∧ zB S 84 d = some (85 + 2 * d)) ∧ (zN S 45 = 7 ∧ zN S 46 = 7 ∧ zN S 31 = 64 ∧ zN S 16 = 64)
/-- the two games: which one is read, which one stays -/
noncomputable def GG (g g' : Nat) : Prop := (g = 35 ∧ g' = 99) ∨ (g = 99 ∧ g' = 35)
/-- nodes and tags that a game has made -/
noncomputable def GM (S : ZS) (g : Nat) : Prop := (∀ i a, zB S (g + 5) i = some a → 109 ≤ a ∧ zK S a = 4 ∧ zP S 6 a = some (a + 1) ∧ zK S (a + 1) = 6) ∧ (∀ i a, zB S (g + 6) i = some a → 109 ≤ a ∧ zK S a = 10 ∧ zP S 0 a = some (a + 1) ∧ zP S 1 a = some (a + 2) ∧ zK S (a + 1) = 6 ∧ zK S (a + 2) = 6)
noncomputable def TDX (S : ZS) : Prop := ∀ g g', GG g g' → ∀ i a, zB S (g + 6) i = some a → (∀ j, zB S (g + 6) j = some a → j = i) ∧ ∀ j, zB S (g' + 6) j ≠ some a
/-- what holds of the class's cells at all times -/
noncomputable def CG (S : ZS) : Prop := ZT S ∧ TZ S ∧ FIX S ∧ GM S 35 ∧ GM S 99 ∧ TDX S
section FXS
variable {S S' : ZS} {W : Nat → Prop} {g g' : Nat}
theorem fx_lt : ∀ a, a ≤ 108 → 1 ≤ a → fxK a < 18 := by decide
theorem fx_vp : ∀ t ∈ fxL, 1 ≤ t.1 ∧ t.1 ≤ 108 ∧ vPk (fxK t.1) = false := by decide
theorem fx_k {a : Nat} (h : FIX S) (h1 : 1 ≤ a) (h2 : a ≤ 108) : zK S a = fxK a := h.1 a h1 h2
theorem fx_l {a : Nat} (h : FIX S) (h1 : 1 ≤ a) (h2 : a ≤ 108) : zK S a < 18 := by rw [h.1 a h1 h2]; exact fx_lt a h2 h1
theorem fx_p {a j b : Nat} (h : FIX S) (hm : (a, j, b) ∈ fxL) : zP S j a = some b := h.2.1 (a, j, b) hm
theorem fx_bk : ∀ d, d < 14 → fxK (49 + 2 * d) = 0 ∧ fxK (50 + 2 * d) = 14 := by decide
theorem fx_wk : ∀ d, d < 7 → fxK (85 + 2 * d) = 0 ∧ fxK (86 + 2 * d) = 14 := by decide
theorem fix_fr (h : FIX S) (hF : FR W S S') : FIX S' := by
  have l := fun a h1 h2 => fx_l (a := a) h h1 h2
  refine ⟨fun a h1 h2 => (fr_k hF (l a h1 h2)).trans (h.1 a h1 h2), fun t ht => ?_, fun d hd => ?_, fun d hd => ?_, fun d hd => ?_, ?_⟩
  · obtain ⟨t1, t2, t3⟩ := fx_vp t ht
    rw [(hF t.1 (l _ t1 t2)).1.2.2.1 (by rw [h.1 _ t1 t2]; exact t3) t.2.1]
    exact h.2.1 t ht
  · rw [(hF _ (l (49 + 2 * d) (by omega) (by omega))).1.2.2.1 (by rw [h.1 _ (by omega) (by omega), (fx_bk d hd).1]; rfl) 0]
    exact h.2.2.1 d hd
  · rw [(hF _ (l (85 + 2 * d) (by omega) (by omega))).1.2.2.1 (by rw [h.1 _ (by omega) (by omega), (fx_wk d hd).1]; rfl) 0]
    exact h.2.2.2.1 d hd
  · have k47 : zB S' 47 = zB S 47 := (hF 47 (l 47 (by decide) (by decide))).1.2.2.2 (h.1 47 (by decide) (by decide))
    have k48 : zB S' 48 = zB S 48 := (hF 48 (l 48 (by decide) (by decide))).1.2.2.2 (h.1 48 (by decide) (by decide))
    have k84 : zB S' 84 = zB S 84 := (hF 84 (l 84 (by decide) (by decide))).1.2.2.2 (h.1 84 (by decide) (by decide))
    rw [k47, k48, k84]
    exact h.2.2.2.2.1 d hd
  · have e := fun a h1 h2 => (hF a (l a h1 h2)).1.2.1
    rw [e 45 (by decide) (by decide), e 46 (by decide) (by decide), e 31 (by decide) (by decide), e 16 (by decide) (by decide)]
    exact h.2.2.2.2.2
theorem gg_s (h : GG g g') : GG g' g := h.elim (fun h => Or.inr ⟨h.2, h.1⟩) (fun h => Or.inl ⟨h.2, h.1⟩)
theorem gg_g (h : GG g g') : g = 35 ∨ g = 99 := h.elim (fun h => Or.inl h.1) (fun h => Or.inr h.1)
theorem gm_of (h : CG S) (hg : g = 35 ∨ g = 99) : GM S g := by
  rcases hg with e | e
  · rw [e]; exact h.2.2.2.1
  · rw [e]; exact h.2.2.2.2.1
theorem fx_g (h : FIX S) (hg : g = 35 ∨ g = 99) : (zK S g = 1 ∧ zP S 0 g = some (g + 1) ∧ zP S 1 g = some (g + 3) ∧ zP S 2 g = some (g + 5) ∧ zP S 4 g = some (g + 6) ∧ zP S 7 g = some (g + 7)) ∧ (zK S (g + 1) = 0 ∧ zK S (g + 2) = 14 ∧ zK S (g + 3) = 4 ∧ zK S (g + 4) = 6 ∧ zK S (g + 5) = 16 ∧ zK S (g + 6) = 17 ∧ zK S (g + 7) = 14) ∧ zP S 0 (g + 1) = some (g + 2) ∧ zP S 6 (g + 3) = some (g + 4) := by
  have k := fun a h1 h2 => fx_k (a := a) h h1 h2
  rcases hg with e | e <;> subst e
  · exact ⟨⟨k 35 (by decide) (by decide), fx_p h (by decide), fx_p h (by decide), fx_p h (by decide), fx_p h (by decide), fx_p h (by decide)⟩, ⟨k 36 (by decide) (by decide), k 37 (by decide) (by decide), k 38 (by decide) (by decide), k 39 (by decide) (by decide), k 40 (by decide) (by decide), k 41 (by decide) (by decide), k 42 (by decide) (by decide)⟩, fx_p h (by decide), fx_p h (by decide)⟩
  · exact ⟨⟨k 99 (by decide) (by decide), fx_p h (by decide), fx_p h (by decide), fx_p h (by decide), fx_p h (by decide), fx_p h (by decide)⟩, ⟨k 100 (by decide) (by decide), k 101 (by decide) (by decide), k 102 (by decide) (by decide), k 103 (by decide) (by decide), k 104 (by decide) (by decide), k 105 (by decide) (by decide), k 106 (by decide) (by decide)⟩, fx_p h (by decide), fx_p h (by decide)⟩
theorem gm_fr (h : FIX S) (hg : g = 35 ∨ g = 99) (hm : GM S g) (hF : FR W S S') (h5 : zB S' (g + 5) = zB S (g + 5)) (h6 : zB S' (g + 6) = zB S (g + 6)) : GM S' g := by
  refine ⟨fun i a ha => ?_, fun i a ha => ?_⟩
  · rw [h5] at ha
    obtain ⟨a1, a2, a3, a4⟩ := hm.1 i a ha
    exact ⟨a1, (fr_k hF (by rw [a2]; decide)).trans a2, ((hF a (by rw [a2]; decide)).1.2.2.1 (by rw [a2]; rfl) 6).trans a3, (fr_k hF (by rw [a4]; decide)).trans a4⟩
  · rw [h6] at ha
    obtain ⟨a1, a2, a3, a4, a5, a6⟩ := hm.2 i a ha
    have p := (hF a (by rw [a2]; decide)).1.2.2.1 (by rw [a2]; rfl)
    exact ⟨a1, (fr_k hF (by rw [a2]; decide)).trans a2, (p 0).trans a3, (p 1).trans a4, (fr_k hF (by rw [a5]; decide)).trans a5, (fr_k hF (by rw [a6]; decide)).trans a6⟩
/-- what changes no rows of nodes and tags keeps all this -/
theorem cg_fr (h : CG S) (hT : ZT S') (hZ : TZ S') (hF : FR W S S') (hB : ∀ a, (a = 40 ∨ a = 41 ∨ a = 104 ∨ a = 105) → zB S' a = zB S a) : CG S' := by
  obtain ⟨-, -, hx, h35, h99, hd⟩ := h
  refine ⟨hT, hZ, fix_fr hx hF, gm_fr hx (Or.inl rfl) h35 hF (hB 40 (by decide)) (hB 41 (by decide)), gm_fr hx (Or.inr rfl) h99 hF (hB 104 (by decide)) (hB 105 (by decide)), fun g g' hg => ?_⟩
  have e1 : zB S' (g + 6) = zB S (g + 6) := hB _ (by rcases hg with ⟨e, -⟩ | ⟨e, -⟩ <;> rw [e] <;> decide)
  have e2 : zB S' (g' + 6) = zB S (g' + 6) := hB _ (by rcases hg with ⟨-, e⟩ | ⟨-, e⟩ <;> rw [e] <;> decide)
  rw [e1, e2]
  exact hd g g' hg
theorem cg_w (h : CG S) (hT : ZT S') (hZ : TZ S') (hF : FR W S S') (h1 : ¬ W 40) (h2 : ¬ W 41) (h3 : ¬ W 104) (h4 : ¬ W 105) : CG S' := cg_fr h hT hZ hF (fun a ha => by
  have l := fun a h1 h2 => fx_l (a := a) h.2.2.1 h1 h2
  rcases ha with e | e | e | e <;> subst e
  · exact (fr_e hF (l 40 (by decide) (by decide)) h1).2.2.2.2.1
  · exact (fr_e hF (l 41 (by decide) (by decide)) h2).2.2.2.2.1
  · exact (fr_e hF (l 104 (by decide) (by decide)) h3).2.2.2.2.1
  · exact (fr_e hF (l 105 (by decide) (by decide)) h4).2.2.2.2.1)
theorem txs_g (h : CG S) (hg : GG g g') : TXs S g (g + 3) (g + 5) g' (g' + 3) (g' + 5) := by
  rcases hg with ⟨e, e2⟩ | ⟨e, e2⟩ <;> subst e <;> subst e2
  · exact h.2.1.1
  · exact txs_s h.2.1.1
theorem ty_g (h : CG S) (hg : g = 35 ∨ g = 99) : TY S g (g + 3) (g + 5) := by
  rcases hg with e | e <;> subst e
  · exact h.2.1.2.1
  · exact h.2.1.2.2
end FXS
/-- what stays while game g is read, g' being the other one -/
noncomputable def KPc (S0 : ZS) (g' a : Nat) : Prop := (1 ≤ a ∧ a ≤ 22) ∨ (77 ≤ a ∧ a ≤ 98) ∨ a = 107 ∨ a = 108 ∨ (g' ≤ a ∧ a ≤ g' + 7) ∨ (∃ i n, zB S0 (g' + 5) i = some n ∧ (a = n ∨ a = n + 1)) ∨ (∃ i n, zB S0 (g' + 6) i = some n ∧ (a = n ∨ a = n + 1 ∨ a = n + 2))
section KPS
variable {S0 S S' : ZS} {g g' : Nat}
theorem kp_B (hg : GG g g') (hF : FR (fun a => ¬ KPc S0 g' a) S0 S) (hX : FIX S0) : zB S (g' + 5) = zB S0 (g' + 5) ∧ zB S (g' + 6) = zB S0 (g' + 6) := by
  have b : 35 ≤ g' ∧ g' ≤ 99 := by rcases hg with ⟨-, e⟩ | ⟨-, e⟩ <;> omega
  exact ⟨(fr_e hF (fx_l hX (by omega) (by omega)) (fun n => n (Or.inr (Or.inr (Or.inr (Or.inr (Or.inl ⟨by omega, by omega⟩))))))).2.2.2.2.1, (fr_e hF (fx_l hX (by omega) (by omega)) (fun n => n (Or.inr (Or.inr (Or.inr (Or.inr (Or.inl ⟨by omega, by omega⟩))))))).2.2.2.2.1⟩
theorem kp_cell {a : Nat} (hC : CG S) (hg : GG g g') (hF : FR (fun a => ¬ KPc S0 g' a) S0 S) (hX : FIX S0) (ha : 109 ≤ a) (hn : ∀ i n, zB S (g' + 5) i = some n → a ≠ n ∧ a ≠ n + 1) (ht : ∀ i n, zB S (g' + 6) i = some n → a ≠ n ∧ a ≠ n + 1 ∧ a ≠ n + 2) : ¬ KPc S0 g' a := by
  obtain ⟨b5, b6⟩ := kp_B hg hF hX
  have b : g' ≤ 99 := by rcases hg with ⟨-, e⟩ | ⟨-, e⟩ <;> omega
  rintro (h | h | h | h | h | ⟨i, n, h1, h2⟩ | ⟨i, n, h1, h2⟩)
  · omega
  · omega
  · omega
  · omega
  · omega
  · rw [← b5] at h1
    have := hn i n h1
    omega
  · rw [← b6] at h1
    have := ht i n h1
    omega
/-- a node of the game that is read, and its row -/
theorem kp_node {i a : Nat} (hC : CG S) (hg : GG g g') (hF : FR (fun a => ¬ KPc S0 g' a) S0 S) (hX : FIX S0) (ha : zB S (g + 5) i = some a) : ¬ KPc S0 g' a ∧ ¬ KPc S0 g' (a + 1) := by
  obtain ⟨a1, a2, a3, a4⟩ := (gm_of hC (gg_g hg)).1 i a ha
  have G' := gm_of hC (gg_g (gg_s hg))
  have hx := (txs_g hC hg).2.2.2.2.2.1 i a ha
  refine ⟨kp_cell hC hg hF hX a1 (fun j n hn => ⟨fun e => hx.2.2.1 j (by rw [e]; exact hn), fun e => ?_⟩) (fun j n hn => ⟨fun e => ?_, fun e => ?_, fun e => ?_⟩), kp_cell hC hg hF hX (by omega) (fun j n hn => ⟨fun e => ?_, fun e => ?_⟩) (fun j n hn => ⟨fun e => ?_, fun e => ?_, fun e => ?_⟩)⟩
  · have := (G'.1 j n hn).2.2.2; rw [← e, a2] at this; omega
  · have := (G'.2 j n hn).2.1; rw [← e, a2] at this; omega
  · have := (G'.2 j n hn).2.2.2.2.1; rw [← e, a2] at this; omega
  · have := (G'.2 j n hn).2.2.2.2.2; rw [← e, a2] at this; omega
  · have := (G'.1 j n hn).2.1; rw [← e, a4] at this; omega
  · have e' : a = n := by omega
    exact hx.2.2.1 j (by rw [e']; exact hn)
  · have := (G'.2 j n hn).2.1; rw [← e, a4] at this; omega
  · have e' : a = n := by omega
    have := (G'.2 j n hn).2.1; rw [← e', a2] at this; omega
  · have e' : a = n + 1 := by omega
    have := (G'.2 j n hn).2.2.2.2.1; rw [← e', a2] at this; omega
/-- a tag of the game that is read, and its rows -/
theorem kp_tag {i a : Nat} (hC : CG S) (hg : GG g g') (hF : FR (fun a => ¬ KPc S0 g' a) S0 S) (hX : FIX S0) (ha : zB S (g + 6) i = some a) : ¬ KPc S0 g' a ∧ ¬ KPc S0 g' (a + 1) ∧ ¬ KPc S0 g' (a + 2) := by
  obtain ⟨a1, a2, a3, a4, a5, a6⟩ := (gm_of hC (gg_g hg)).2 i a ha
  have G' := gm_of hC (gg_g (gg_s hg))
  have hx := (hC.2.2.2.2.2 g g' hg i a ha).2
  refine ⟨kp_cell hC hg hF hX a1 (fun j n hn => ⟨fun e => ?_, fun e => ?_⟩) (fun j n hn => ⟨fun e => hx j (by rw [e]; exact hn), fun e => ?_, fun e => ?_⟩), kp_cell hC hg hF hX (by omega) (fun j n hn => ⟨fun e => ?_, fun e => ?_⟩) (fun j n hn => ⟨fun e => ?_, fun e => ?_, fun e => ?_⟩), kp_cell hC hg hF hX (by omega) (fun j n hn => ⟨fun e => ?_, fun e => ?_⟩) (fun j n hn => ⟨fun e => ?_, fun e => ?_, fun e => ?_⟩)⟩
  · have := (G'.1 j n hn).2.1; rw [← e, a2] at this; omega
  · have := (G'.1 j n hn).2.2.2; rw [← e, a2] at this; omega
  · have := (G'.2 j n hn).2.2.2.2.1; rw [← e, a2] at this; omega
  · have := (G'.2 j n hn).2.2.2.2.2; rw [← e, a2] at this; omega
  · have := (G'.1 j n hn).2.1; rw [← e, a5] at this; omega
  · have e' : a = n := by omega
    have := (G'.1 j n hn).2.1; rw [← e', a2] at this; omega
  · have := (G'.2 j n hn).2.1; rw [← e, a5] at this; omega
  · have e' : a = n := by omega
    exact hx j (by rw [e']; exact hn)
  · have e' : a = n + 1 := by omega
    have := (G'.2 j n hn).2.2.2.2.1; rw [← e', a2] at this; omega
  · have := (G'.1 j n hn).2.1; rw [← e, a6] at this; omega
  · have e' : a + 1 = n := by omega
    have := (G'.1 j n hn).2.1; rw [← e', a5] at this; omega
  · have := (G'.2 j n hn).2.1; rw [← e, a6] at this; omega
  · have e' : a + 1 = n := by omega
    have := (G'.2 j n hn).2.1; rw [← e', a5] at this; omega
  · have e' : a = n := by omega
    exact hx j (by rw [e']; exact hn)
/-- fixed cells of the reader and of its game -/
theorem kp_fix {a : Nat} (hC : CG S) (hg : GG g g') (hF : FR (fun a => ¬ KPc S0 g' a) S0 S) (hX : FIX S0) (h1 : (23 ≤ a ∧ a ≤ 34) ∨ (43 ≤ a ∧ a ≤ 76) ∨ (g ≤ a ∧ a ≤ g + 7)) : ¬ KPc S0 g' a := by
  obtain ⟨b5, b6⟩ := kp_B hg hF hX
  have G' := gm_of hC (gg_g (gg_s hg))
  have b : (g = 35 ∧ g' = 99) ∨ (g = 99 ∧ g' = 35) := hg
  rintro (h | h | h | h | h | ⟨i, n, h2, h3⟩ | ⟨i, n, h2, h3⟩)
  · omega
  · omega
  · omega
  · omega
  · omega
  · rw [← b5] at h2
    have := (G'.1 i n h2).1
    omega
  · rw [← b6] at h2
    have := (G'.2 i n h2).1
    omega
end KPS
