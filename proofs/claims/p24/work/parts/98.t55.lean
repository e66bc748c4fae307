section
/-- the kinds of the class's fixed cells -/
noncomputable def fxK (a : Nat) : Nat := ([99, 11, 6, 6, 7, 0, 14, 0, 14, 8, 7, 0, 14, 0, 14, 6, 14, 9, 7, 0, 14, 0, 14, 2, 8, 7, 0, 14, 0, 14, 6, 14, 5, 6, 6, 1, 0, 14, 4, 6, 16, 17, 14, 6, 6, 14, 14, 15, 15, 0, 14, 0, 14, 0, 14, 0, 14, 0, 14, 0, 14, 0, 14, 0, 14, 0, 14, 0, 14, 0, 14, 0, 14, 0, 14, 0, 14, 3, 9, 7, 0, 14, 0, 14, 15, 0, 14, 0, 14, 0, 14, 0, 14, 0, 14, 0, 14, 0, 14, 1, 0, 14, 4, 6, 16, 17, 14, 0, 14] : List Nat).getD a 99
/-- references that never change: cell, slot, to -/
noncomputable def fxL : List (Nat × Nat × Nat) := [(1, 0, 2), (1, 1, 3), (1, 2, 4), (1, 3, 9), (1, 4, 17), (1, 5, 23), (1, 6, 77), (1, 9, 107), (4, 0, 5), (4, 1, 7), (9, 0, 10), (9, 1, 15), (9, 10, 16), (10, 0, 11), (10, 1, 13), (17, 0, 18), (18, 0, 19), (18, 1, 21), (23, 0, 24), (23, 1, 32), (23, 6, 43), (23, 7, 44), (23, 8, 45), (23, 9, 46), (23, 10, 47), (23, 11, 48), (24, 0, 25), (24, 1, 30), (24, 10, 31), (25, 0, 26), (25, 1, 28), (35, 0, 36), (35, 1, 38), (35, 2, 40), (35, 4, 41), (35, 7, 42), (38, 6, 39), (99, 0, 100), (99, 1, 102), (99, 2, 104), (99, 4, 105), (99, 7, 106), (102, 6, 103), (77, 0, 78), (77, 1, 84), (78, 0, 79), (79, 0, 80), (79, 1, 82), (5, 0, 6), (7, 0, 8), (11, 0, 12), (13, 0, 14), (19, 0, 20), (21, 0, 22), (26, 0, 27), (28, 0, 29), (36, 0, 37), (80, 0, 81), (82, 0, 83), (100, 0, 101), (107, 0, 108)]
/-- boards in rows: cell, how many -/
noncomputable def FIX (S : ZS) : Prop := (∀ a, 1 ≤ a → a ≤ 108 → zK S a = fxK a) ∧ (∀ t ∈ fxL, zP S t.2.1 t.1 = some t.2.2) ∧ (∀ d, d < 14 → zP S 0 (49 + 2 * d) = some (50 + 2 * d)) ∧ (∀ d, d < 7 → zP S 0 (85 + 2 * d) = some (86 + 2 * d)) ∧ (∀ d, d < 7 → zB S 47 d = some (49 + 4 * d) ∧ zB S 48 d = some (51 + 4 * d) ∧ zB S 84 d = some (85 + 2 * d)) ∧ (zN S 45 = 7 ∧ zN S 46 = 7 ∧ zN S 31 = 64 ∧ zN S 16 = 64)
/-- the two games: which one is read, which one stays -/
noncomputable def GG (g g' : Nat) : Prop := (g = 35 ∧ g' = 99) ∨ (g = 99 ∧ g' = 35)
/-- nodes and tags that a game has made -/
noncomputable def GM (S : ZS) (g : Nat) : Prop := (∀ i a, zB S (g + 5) i = some a → 109 ≤ a ∧ zK S a = 4 ∧ zP S 6 a = some (a + 1) ∧ zK S (a + 1) = 6) ∧ (∀ i a, zB S (g + 6) i = some a → 109 ≤ a ∧ zK S a = 10 ∧ zP S 0 a = some (a + 1) ∧ zP S 1 a = some (a + 2) ∧ zK S (a + 1) = 6 ∧ zK S (a + 2) = 6)
noncomputable def TDX (S : ZS) : Prop := ∀ g g', GG g g' → ∀ i a, zB S (g + 6) i = some a → (∀ j, zB S (g + 6) j = some a → j = i) ∧ ∀ j, zB S (g' + 6) j ≠ some a
/-- what holds of the class's cells at all times -/
noncomputable def CG (S : ZS) : Prop := ZT S ∧ TZ S ∧ FIX S ∧ GM S 35 ∧ GM S 99 ∧ TDX S
section FXS
variable {S S' : ZS} {W : Nat → Prop} {g g' : Nat}
theorem fx_lt : ∀ a, a ≤ 108 → 1 ≤ a → fxK a < 18 := by decide
theorem fx_vp : ∀ t ∈ fxL, 1 ≤ t.1 ∧ t.1 ≤ 108 ∧ vPk (fxK t.1) = false := by decide
theorem fx_k {a : Nat} (h : FIX S) (h1 : 1 ≤ a) (h2 : a ≤ 108) : zK S a = fxK a := h.1 a h1 h2
theorem fx_l {a : Nat} (h : FIX S) (h1 : 1 ≤ a) (h2 : a ≤ 108) : zK S a < 18 := by rw [h.1 a h1 h2]; exact fx_lt a h2 h1
theorem fx_p {a j b : Nat} (h : FIX S) (hm : (a, j, b) ∈ fxL) : zP S j a = some b := h.2.1 (a, j, b) hm
theorem fx_bk : ∀ d, d < 14 → fxK (49 + 2 * d) = 0 ∧ fxK (50 + 2 * d) = 14 := by decide
theorem fx_wk : ∀ d, d < 7 → fxK (85 + 2 * d) = 0 ∧ fxK (86 + 2 * d) = 14 := by decide
theorem fix_fr (h : FIX S) (hF : FR W S S') : FIX S' := by
  have l := fun a h1 h2 => fx_l (a := a) h h1 h2
  refine ⟨fun a h1 h2 => (fr_k hF (l a h1 h2)).trans (h.1 a h1 h2), fun t ht => ?_, fun d hd => ?_, fun d hd => ?_, fun d hd => ?_, ?_⟩
  · obtain ⟨t1, t2, t3⟩ := fx_vp t ht
    rw [(hF t.1 (l _ t1 t2)).1.2.2.1 (by rw [h.1 _ t1 t2]; exact t3) t.2.1]
    exact h.2.1 t ht
  · rw [(hF _ (l (49 + 2 * d) (by omega) (by omega))).1.2.2.1 (by rw [h.1 _ (by omega) (by omega), (fx_bk d hd).1]; rfl) 0]
    exact h.2.2.1 d hd
  · rw [(hF _ (l (85 + 2 * d) (by omega) (by omega))).1.2.2.1 (by rw [h.1 _ (by omega) (by omega), (fx_wk d hd).1]; rfl) 0]
    exact h.2.2.2.1 d hd
  · have k47 : zB S' 47 = zB S 47 := (hF 47 (l 47 (by decide) (by decide))).1.2.2.2 (h.1 47 (by decide) (by decide))
    have k48 : zB S' 48 = zB S 48 := (hF 48 (l 48 (by decide) (by decide))).1.2.2.2 (h.1 48 (by decide) (by decide))
    have k84 : zB S' 84 = zB S 84 := (hF 84 (l 84 (by decide) (by decide))).1.2.2.2 (h.1 84 (by decide) (by decide))
    rw [k47, k48, k84]
    exact h.2.2.2.2.1 d hd
  · have e := fun a h1 h2 => (hF a (l a h1 h2)).1.2.1
    rw [e 45 (by decide) (by decide), e 46 (by decide) (by decide), e 31 (by decide) (by decide), e 16 (by decide) (by decide)]
    exact h.2.2.2.2.2
theorem gg_s (h : GG g g') : GG g' g := h.elim (fun h => Or.inr ⟨h.2, h.1⟩) (fun h => Or.inl ⟨h.2, h.1⟩)
theorem gg_g (h : GG g g') : g = 35 ∨ g = 99 := h.elim (fun h => Or.inl h.1) (fun h => Or.inr h.1)
theorem gm_of (h : CG S) (hg : g = 35 ∨ g = 99) : GM S g := by
  rcases hg with e | e
  · rw [e]; exact h.2.2.2.1
  · rw [e]; exact h.2.2.2.2.1
theorem fx_g (h : FIX S) (hg : g = 35 ∨ g = 99) : (zK S g = 1 ∧ zP S 0 g = some (g + 1) ∧ zP S 1 g = some (g + 3) ∧ zP S 2 g = some (g + 5) ∧ zP S 4 g = some (g + 6) ∧ zP S 7 g = some (g + 7)) ∧ (zK S (g + 1) = 0 ∧ zK S (g + 2) = 14 ∧ zK S (g + 3) = 4 ∧ zK S (g + 4) = 6 ∧ zK S (g + 5) = 16 ∧ zK S (g + 6) = 17 ∧ zK S (g + 7) = 14) ∧ zP S 0 (g + 1) = some (g + 2) ∧ zP S 6 (g + 3) = some (g + 4) := by
  have k := fun a h1 h2 => fx_k (a := a) h h1 h2
  rcases hg with e | e <;> subst e
  · exact ⟨⟨k 35 (by decide) (by decide), fx_p h (by decide), fx_p h (by decide), fx_p h (by decide), fx_p h (by decide), fx_p h (by decide)⟩, ⟨k 36 (by decide) (by decide), k 37 (by decide) (by decide), k 38 (by decide) (by decide), k 39 (by decide) (by decide), k 40 (by decide) (by decide), k 41 (by decide) (by decide), k 42 (by decide) (by decide)⟩, fx_p h (by decide), fx_p h (by decide)⟩
  · exact ⟨⟨k 99 (by decide) (by decide), fx_p h (by decide), fx_p h (by decide), fx_p h (by decide), fx_p h (by decide), fx_p h (by decide)⟩, ⟨k 100 (by decide) (by decide), k 101 (by decide) (by decide), k 102 (by decide) (by decide), k 103 (by decide) (by decide), k 104 (by decide) (by decide), k 105 (by decide) (by decide), k 106 (by decide) (by decide)⟩, fx_p h (by decide), fx_p h (by decide)⟩
theorem gm_fr (h : FIX S) (hg : g = 35 ∨ g = 99) (hm : GM S g) (hF : FR W S S') (h5 : zB S' (g + 5) = zB S (g + 5)) (h6 : zB S' (g + 6) = zB S (g + 6)) : GM S' g := by
  refine ⟨fun i a ha => ?_, fun i a ha => ?_⟩
  · rw [h5] at ha
    obtain ⟨a1, a2, a3, a4⟩ := hm.1 i a ha
    exact ⟨a1, (fr_k hF (by rw [a2]; decide)).trans a2, ((hF a (by rw [a2]; decide)).1.2.2.1 (by rw [a2]; rfl) 6).trans a3, (fr_k hF (by rw [a4]; decide)).trans a4⟩
  · rw [h6] at ha
    obtain ⟨a1, a2, a3, a4, a5, a6⟩ := hm.2 i a ha
    have p := (hF a (by rw [a2]; decide)).1.2.2.1 (by rw [a2]; rfl)
    exact ⟨a1, (fr_k hF (by rw [a2]; decide)).trans a2, (p 0).trans a3, (p 1).trans a4, (fr_k hF (by rw [a5]; decide)).trans a5, (fr_k hF (by rw [a6]; decide)).trans a6⟩
/-- what changes no rows of nodes and tags keeps all this -/
theorem cg_fr (h : CG S) (hT : ZT S') (hZ : TZ S') (hF : FR W S S') (hB : ∀ a, (a = 40 ∨ a = 41 ∨ a = 104 ∨ a = 105) → zB S' a = zB S a) : CG S' := by
  obtain ⟨-, -, hx, h35, h99, hd⟩ := h
  refine ⟨hT, hZ, fix_fr hx hF, gm_fr hx (Or.inl rfl) h35 hF (hB 40 (by decide)) (hB 41 (by decide)), gm_fr hx (Or.inr rfl) h99 hF (hB 104 (by decide)) (hB 105 (by decide)), fun g g' hg => ?_⟩
  have e1 : zB S' (g + 6) = zB S (g + 6) := hB _ (by rcases hg with ⟨e, -⟩ | ⟨e, -⟩ <;> rw [e] <;> decide)
  have e2 : zB S' (g' + 6) = zB S (g' + 6) := hB _ (by rcases hg with ⟨-, e⟩ | ⟨-, e⟩ <;> rw [e] <;> decide)
  rw [e1, e2]
  exact hd g g' hg
theorem cg_w (h : CG S) (hT : ZT S') (hZ : TZ S') (hF : FR W S S') (h1 : ¬ W 40) (h2 : ¬ W 41) (h3 : ¬ W 104) (h4 : ¬ W 105) : CG S' := cg_fr h hT hZ hF (fun a ha => by
  have l := fun a h1 h2 => fx_l (a := a) h.2.2.1 h1 h2
  rcases ha with e | e | e | e <;> subst e
  · exact (fr_e hF (l 40 (by decide) (by decide)) h1).2.2.2.2.1
  · exact (fr_e hF (l 41 (by decide) (by decide)) h2).2.2.2.2.1
  · exact (fr_e hF (l 104 (by decide) (by decide)) h3).2.2.2.2.1
  · exact (fr_e hF (l 105 (by decide) (by decide)) h4).2.2.2.2.1)
theorem txs_g (h : CG S) (hg : GG g g') : TXs S g (g + 3) (g + 5) g' (g' + 3) (g' + 5) := by
  rcases hg with ⟨e, e2⟩ | ⟨e, e2⟩ <;> subst e <;> subst e2
  · exact h.2.1.1
  · exact txs_s h.2.1.1
theorem ty_g (h : CG S) (hg : g = 35 ∨ g = 99) : TY S g (g + 3) (g + 5) := by
  rcases hg with e | e <;> subst e
  · exact h.2.1.2.1
  · exact h.2.1.2.2
end FXS
/-- what stays while game g is read, g' being the other one -/
noncomputable def KPc (S0 : ZS) (g' a : Nat) : Prop := (1 ≤ a ∧ a ≤ 22) ∨ (77 ≤ a ∧ a ≤ 98) ∨ a = 107 ∨ a = 108 ∨ (g' ≤ a ∧ a ≤ g' + 7) ∨ (∃ i n, zB S0 (g' + 5) i = some n ∧ (a = n ∨ a = n + 1)) ∨ (∃ i n, zB S0 (g' + 6) i = some n ∧ (a = n ∨ a = n + 1 ∨ a = n + 2))
section KPS
variable {S0 S S' : ZS} {g g' : Nat}
theorem kp_B (hg : GG g g') (hF : FR (fun a => ¬ KPc S0 g' a) S0 S) (hX : FIX S0) : zB S (g' + 5) = zB S0 (g' + 5) ∧ zB S (g' + 6) = zB S0 (g' + 6) := by
  have b : 35 ≤ g' ∧ g' ≤ 99 := by rcases hg with ⟨-, e⟩ | ⟨-, e⟩ <;> omega
  exact ⟨(fr_e hF (fx_l hX (by omega) (by omega)) (fun n => n (Or.inr (Or.inr (Or.inr (Or.inr (Or.inl ⟨by omega, by omega⟩))))))).2.2.2.2.1, (fr_e hF (fx_l hX (by omega) (by omega)) (fun n => n (Or.inr (Or.inr (Or.inr (Or.inr (Or.inl ⟨by omega, by omega⟩))))))).2.2.2.2.1⟩
theorem kp_cell {a : Nat} (hC : CG S) (hg : GG g g') (hF : FR (fun a => ¬ KPc S0 g' a) S0 S) (hX : FIX S0) (ha : 109 ≤ a) (hn : ∀ i n, zB S (g' + 5) i = some n → a ≠ n ∧ a ≠ n + 1) (ht : ∀ i n, zB S (g' + 6) i = some n → a ≠ n ∧ a ≠ n + 1 ∧ a ≠ n + 2) : ¬ KPc S0 g' a := by
  obtain ⟨b5, b6⟩ := kp_B hg hF hX
  have b : g' ≤ 99 := by rcases hg with ⟨-, e⟩ | ⟨-, e⟩ <;> omega
  rintro (h | h | h | h | h | ⟨i, n, h1, h2⟩ | ⟨i, n, h1, h2⟩)
  · omega
  · omega
  · omega
  · omega
  · omega
  · rw [← b5] at h1
    have := hn i n h1
    omega
  · rw [← b6] at h1
    have := ht i n h1
    omega
/-- a node of the game that is read, and its row -/
theorem kp_node {i a : Nat} (hC : CG S) (hg : GG g g') (hF : FR (fun a => ¬ KPc S0 g' a) S0 S) (hX : FIX S0) (ha : zB S (g + 5) i = some a) : ¬ KPc S0 g' a ∧ ¬ KPc S0 g' (a + 1) := by
  obtain ⟨a1, a2, a3, a4⟩ := (gm_of hC (gg_g hg)).1 i a ha
  have G' := gm_of hC (gg_g (gg_s hg))
  have hx := (txs_g hC hg).2.2.2.2.2.1 i a ha
  refine ⟨kp_cell hC hg hF hX a1 (fun j n hn => ⟨fun e => hx.2.2.1 j (by rw [e]; exact hn), fun e => ?_⟩) (fun j n hn => ⟨fun e => ?_, fun e => ?_, fun e => ?_⟩), kp_cell hC hg hF hX (by omega) (fun j n hn => ⟨fun e => ?_, fun e => ?_⟩) (fun j n hn => ⟨fun e => ?_, fun e => ?_, fun e => ?_⟩)⟩
  · have := (G'.1 j n hn).2.2.2; rw [← e, a2] at this; omega
  · have := (G'.2 j n hn).2.1; rw [← e, a2] at this; omega
  · have := (G'.2 j n hn).2.2.2.2.1; rw [← e, a2] at this; omega
  · have := (G'.2 j n hn).2.2.2.2.2; rw [← e, a2] at this; omega
  · have := (G'.1 j n hn).2.1; rw [← e, a4] at this; omega
  · have e' : a = n := by omega
    exact hx.2.2.1 j (by rw [e']; exact hn)
  · have := (G'.2 j n hn).2.1; rw [← e, a4] at this; omega
  · have e' : a = n := by omega
    have := (G'.2 j n hn).2.1; rw [← e', a2] at this; omega
  · have e' : a = n + 1 := by omega
    have := (G'.2 j n hn).2.2.2.2.1; rw [← e', a2] at this; omega
/-- a tag of the game that is read, and its rows -/
theorem kp_tag {i a : Nat} (hC : CG S) (hg : GG g g') (hF : FR (fun a => ¬ KPc S0 g' a) S0 S) (hX : FIX S0) (ha : zB S (g + 6) i = some a) : ¬ KPc S0 g' a ∧ ¬ KPc S0 g' (a + 1) ∧ ¬ KPc S0 g' (a + 2) := by
  obtain ⟨a1, a2, a3, a4, a5, a6⟩ := (gm_of hC (gg_g hg)).2 i a ha
  have G' := gm_of hC (gg_g (gg_s hg))
  have hx := (hC.2.2.2.2.2 g g' hg i a ha).2
  refine ⟨kp_cell hC hg hF hX a1 (fun j n hn => ⟨fun e => ?_, fun e => ?_⟩) (fun j n hn => ⟨fun e => hx j (by rw [e]; exact hn), fun e => ?_, fun e => ?_⟩), kp_cell hC hg hF hX (by omega) (fun j n hn => ⟨fun e => ?_, fun e => ?_⟩) (fun j n hn => ⟨fun e => ?_, fun e => ?_, fun e => ?_⟩), kp_cell hC hg hF hX (by omega) (fun j n hn => ⟨fun e => ?_, fun e => ?_⟩) (fun j n hn => ⟨fun e => ?_, fun e => ?_, fun e => ?_⟩)⟩
  · have := (G'.1 j n hn).2.1; rw [← e, a2] at this; omega
  · have := (G'.1 j n hn).2.2.2; rw [← e, a2] at this; omega
  · have := (G'.2 j n hn).2.2.2.2.1; rw [← e, a2] at this; omega
  · have := (G'.2 j n hn).2.2.2.2.2; rw [← e, a2] at this; omega
  · have := (G'.1 j n hn).2.1; rw [← e, a5] at this; omega
  · have e' : a = n := by omega
    have := (G'.1 j n hn).2.1; rw [← e', a2] at this; omega
  · have := (G'.2 j n hn).2.1; rw [← e, a5] at this; omega
  · have e' : a = n := by omega
    exact hx j (by rw [e']; exact hn)
  · have e' : a = n + 1 := by omega
    have := (G'.2 j n hn).2.2.2.2.1; rw [← e', a2] at this; omega
  · have := (G'.1 j n hn).2.1; rw [← e, a6] at this; omega
  · have e' : a + 1 = n := by omega
    have := (G'.1 j n hn).2.1; rw [← e', a5] at this; omega
  · have := (G'.2 j n hn).2.1; rw [← e, a6] at this; omega
  · have e' : a + 1 = n := by omega
    have := (G'.2 j n hn).2.1; rw [← e', a5] at this; omega
  · have e' : a = n := by omega
    exact hx j (by rw [e']; exact hn)
/-- fixed cells of the reader and of its game -/
theorem kp_fix {a : Nat} (hC : CG S) (hg : GG g g') (hF : FR (fun a => ¬ KPc S0 g' a) S0 S) (hX : FIX S0) (h1 : (23 ≤ a ∧ a ≤ 34) ∨ (43 ≤ a ∧ a ≤ 76) ∨ (g ≤ a ∧ a ≤ g + 7)) : ¬ KPc S0 g' a := by
  obtain ⟨b5, b6⟩ := kp_B hg hF hX
  have G' := gm_of hC (gg_g (gg_s hg))
  have b : (g = 35 ∧ g' = 99) ∨ (g = 99 ∧ g' = 35) := hg
  rintro (h | h | h | h | h | ⟨i, n, h2, h3⟩ | ⟨i, n, h2, h3⟩)
  · omega
  · omega
  · omega
  · omega
  · omega
  · rw [← b5] at h2
    have := (G'.1 i n h2).1
    omega
  · rw [← b6] at h2
    have := (G'.2 i n h2).1
    omega
end KPS
end
section
/-- a tree: how many, parents, moves, children, marks, remarks -/
noncomputable abbrev TRa : Type := Nat × (Nat → Int) × (Nat → Int) × (Nat → List Nat) × (Nat → List Int) × (Nat → List Int)
noncomputable def tn (T : TRa) : Nat := T.1
noncomputable def tP (T : TRa) : Nat → Int := T.2.1
noncomputable def tM (T : TRa) : Nat → Int := T.2.2.1
noncomputable def tL (T : TRa) : Nat → List Nat := T.2.2.2.1
noncomputable def tK (T : TRa) : Nat → List Int := T.2.2.2.2.1
noncomputable def tR (T : TRa) : Nat → List Int := T.2.2.2.2.2
noncomputable def mkT (T : TRa) (k : Nat) (K : List Int) : TRa := (tn T, tP T, tM T, tL T, fun j => if j = k then K else tK T j, tR T)
noncomputable def rkT (T : TRa) (k : Nat) (r : List Int) : TRa := (tn T, tP T, tM T, tL T, tK T, fun j => if j = k then r else tR T j)
/-- a node more, the last child of p -/
noncomputable def grT (T : TRa) (p : Nat) (m : Int) : TRa := (tn T + 1, fun k => if k = tn T + 1 then (p : Int) else tP T k, fun k => if k = tn T + 1 then m else tM T k, fun q => if q = p then tL T p ++ [tn T + 1] else if q = tn T + 1 then [] else tL T q, fun k => if k = tn T + 1 then [] else tK T k, fun k => if k = tn T + 1 then [] else tR T k)
/-- bounds of a tree -/
noncomputable def WT (T : TRa) : Prop := tn T ≤ 300 ∧ (∀ k, 1 ≤ k → k ≤ tn T → (0 ≤ tP T k ∧ tP T k < (k : Int)) ∧ 0 ≤ tM T k ∧ tM T k ≤ 24575) ∧ (∀ k, (tR T k).length ≤ 200 ∧ (tK T k).length ≤ 4) ∧ tP T 0 = -1 ∧ tM T 0 = -1
/-- the first child with a move -/
noncomputable def chL (M : Nat → Int) (m : Int) : List Nat → Int
  | [] => -1
  | k :: l => if M k = m then (k : Int) else chL M m l
/-- the tree of the class's game g -/
noncomputable def TRc (S : ZS) (g : Nat) (T : TRa) : Prop := cn S g = tn T ∧ (∀ k, 1 ≤ k → k ≤ tn T → zB S (g + 5) k ≠ none) ∧ TTl (tn T) (nF S 0 (g + 3) (g + 5)) (nF S 2 (g + 3) (g + 5)) (nF S 3 (g + 3) (g + 5)) (tL T) ∧ ∀ k, k ≤ tn T → (nF S 0 (g + 3) (g + 5) k = tP T k ∧ nF S 1 (g + 3) (g + 5) k = tM T k) ∧ NMk S (nk S (g + 3) (g + 5) k) (tK T k) ∧ RWL S (nk S (g + 3) (g + 5) k + 1) (tR T k)
/-- the cells of a game's tree -/
noncomputable def TCl (S : ZS) (g a : Nat) : Prop := a = g ∨ a = g + 3 ∨ a = g + 4 ∨ a = g + 5 ∨ ∃ i n, zB S (g + 5) i = some n ∧ (a = n ∨ a = n + 1)
section TRS
variable {S S' : ZS} {g g' k : Nat} {T : TRa} {K r : List Int}
theorem tc_nk (i : Nat) : TCl S g (nk S (g + 3) (g + 5) i) ∧ TCl S g (nk S (g + 3) (g + 5) i + 1) := by
  rcases nk_or (S := S) (r := g + 3) (b := g + 5) (k := i) with h | h
  · rw [h]; exact ⟨Or.inr (Or.inl rfl), Or.inr (Or.inr (Or.inl rfl))⟩
  · exact ⟨Or.inr (Or.inr (Or.inr (Or.inr ⟨i, _, h, Or.inl rfl⟩))), Or.inr (Or.inr (Or.inr (Or.inr ⟨i, _, h, Or.inr rfl⟩)))⟩
/-- a node, its row -/
theorem nk_nd (hC : CG S) (hg : g = 35 ∨ g = 99) (i : Nat) : zK S (nk S (g + 3) (g + 5) i) = 4 ∧ zP S 6 (nk S (g + 3) (g + 5) i) = some (nk S (g + 3) (g + 5) i + 1) ∧ zK S (nk S (g + 3) (g + 5) i + 1) = 6 ∧ rc (nk S (g + 3) (g + 5) i + 1) = 0 := by
  obtain ⟨-, ⟨-, -, k3, k4, -⟩, -, p6⟩ := fx_g hC.2.2.1 hg
  rcases nk_or (S := S) (r := g + 3) (b := g + 5) (k := i) with h | h
  · rw [h]
    refine ⟨k3, p6, k4, ?_⟩
    rcases hg with e | e <;> rw [e] <;> decide
  · obtain ⟨a1, a2, a3, a4⟩ := (gm_of hC hg).1 i _ h
    refine ⟨a2, a3, a4, ?_⟩
    unfold rc
    rw [if_neg (by omega), if_neg (by omega), if_neg (by omega), if_neg (by omega)]
theorem trc_nd (hC : CG S) (hg : g = 35 ∨ g = 99) (h : TRc S g T) (hk : k ≤ tn T) : NDo S (nk S (g + 3) (g + 5) k) (tR T k) := ⟨nk_nd hC hg k, (h.2.2.2 k hk).2.2⟩
theorem nk_ij (hC : CG S) (hg : GG g g') (h : TRc S g T) {i j : Nat} (hi : i ≤ tn T) (hj : j ≤ tn T) (e : nk S (g + 3) (g + 5) i = nk S (g + 3) (g + 5) j) : i = j :=
  nk_inj (fun i c hc => ⟨((txs_g hC hg).2.2.2.2.2.1 i c hc).1, ((txs_g hC hg).2.2.2.2.2.1 i c hc).2.2.2⟩ ) h.2.1 hi hj e
theorem nk_r1 (hC : CG S) (hg : g = 35 ∨ g = 99) (i j : Nat) : nk S (g + 3) (g + 5) i ≠ nk S (g + 3) (g + 5) j + 1 := fun e => by
  have h1 := (nk_nd hC hg i).1
  have h2 := (nk_nd hC hg j).2.2.1
  rw [e, h2] at h1
  omega
theorem trc_e (hC : CG S) (hg : g = 35 ∨ g = 99) (h : TRc S g T) (hE : ∀ a, TCl S g a → EQc S S' a) : TRc S' g T := by
  obtain ⟨h1, h2, h3, h4⟩ := h
  have eB : zB S' (g + 5) = zB S (g + 5) := (hE (g + 5) (Or.inr (Or.inr (Or.inr (Or.inl rfl))))).2.2.2.2.1
  have en : ∀ i, nk S' (g + 3) (g + 5) i = nk S (g + 3) (g + 5) i := fun i => by unfold nk; rw [eB]
  have eF : ∀ j, nF S' j (g + 3) (g + 5) = nF S j (g + 3) (g + 5) := fun j => by
    funext i
    unfold nF
    rw [en i, (hE _ (tc_nk i).1).2.2.1]
  refine ⟨by unfold cn; rw [(hE g (Or.inl rfl)).2.2.1]; exact h1, fun k k1 k2 => by rw [eB]; exact h2 k k1 k2, by rw [eF 0, eF 2, eF 3]; exact h3, fun k hk => ?_⟩
  obtain ⟨a1, a2, a3⟩ := h4 k hk
  have e1 := hE _ (tc_nk (S := S) (g := g) k).1
  have e2 := hE _ (tc_nk (S := S) (g := g) k).2
  rw [eF 0, eF 1, en k]
  exact ⟨a1, ⟨by rw [e1.2.2.1]; exact a2.1, by rw [e1.2.2.1]; exact a2.2⟩, eqc_rl e2 (nk_nd hC hg k).2.2.1 a3⟩
theorem trc_mk (hC : CG S) (hg : GG g g') (h : TRc S g T) (hk : k ≤ tn T) (hE : ∀ a, TCl S g a → a ≠ nk S (g + 3) (g + 5) k → EQc S S' a) (hl : LKs S S' (nk S (g + 3) (g + 5) k)) (hm : NMk S' (nk S (g + 3) (g + 5) k) K) : TRc S' g (mkT T k K) := by
  have hij := fun i hi e => nk_ij (i := i) (j := k) hC hg h hi hk e
  obtain ⟨h1, h2, h3, h4⟩ := h
  have g5 : g + 5 ≠ nk S (g + 3) (g + 5) k := fun e => by
    have a1 := (nk_nd hC (gg_g hg) k).1
    rw [← e, (fx_g hC.2.2.1 (gg_g hg)).2.1.2.2.2.2.1] at a1
    omega
  have g0 : g ≠ nk S (g + 3) (g + 5) k := fun e => by
    have a1 := (nk_nd hC (gg_g hg) k).1
    rw [← e, (fx_g hC.2.2.1 (gg_g hg)).1.1] at a1
    omega
  have eB : zB S' (g + 5) = zB S (g + 5) := (hE (g + 5) (Or.inr (Or.inr (Or.inr (Or.inl rfl)))) g5).2.2.2.2.1
  have en : ∀ i, nk S' (g + 3) (g + 5) i = nk S (g + 3) (g + 5) i := fun i => by unfold nk; rw [eB]
  have eF : ∀ j, j ≠ 4 → j ≠ 5 → nF S' j (g + 3) (g + 5) = nF S j (g + 3) (g + 5) := fun j j4 j5 => by
    funext i
    unfold nF
    rw [en i]
    by_cases e : nk S (g + 3) (g + 5) i = nk S (g + 3) (g + 5) k
    · rw [e, hl j j4 j5]
    · rw [(hE _ (tc_nk i).1 e).2.2.1]
  refine ⟨by unfold cn; rw [(hE g (Or.inl rfl) g0).2.2.1]; exact h1, fun k k1 k2 => by rw [eB]; exact h2 k k1 k2, by rw [eF 0 (by decide) (by decide), eF 2 (by decide) (by decide), eF 3 (by decide) (by decide)]; exact h3, fun i hi => ?_⟩
  obtain ⟨a1, a2, a3⟩ := h4 i hi
  have e2 := hE _ (tc_nk (S := S) (g := g) i).2 (fun e => nk_r1 hC (gg_g hg) k i e.symm)
  rw [eF 0 (by decide) (by decide), eF 1 (by decide) (by decide), en i]
  refine ⟨a1, ?_, eqc_rl e2 (nk_nd hC (gg_g hg) i).2.2.1 a3⟩
  show NMk S' _ (if i = k then K else tK T i)
  by_cases e : i = k
  · rw [if_pos e, e]; exact hm
  · rw [if_neg e]
    have e1 := hE _ (tc_nk (S := S) (g := g) i).1 (fun ee => e (hij i hi ee))
    exact ⟨by rw [e1.2.2.1]; exact a2.1, by rw [e1.2.2.1]; exact a2.2⟩
theorem trc_rk (hC : CG S) (hg : GG g g') (h : TRc S g T) (hk : k ≤ tn T) (hE : ∀ a, TCl S g a → a ≠ nk S (g + 3) (g + 5) k + 1 → EQc S S' a) (hr : RWL S' (nk S (g + 3) (g + 5) k + 1) r) : TRc S' g (rkT T k r) := by
  have hij := fun i hi e => nk_ij (i := i) (j := k) hC hg h hi hk e
  obtain ⟨h1, h2, h3, h4⟩ := h
  have g5 : g + 5 ≠ nk S (g + 3) (g + 5) k + 1 := fun e => by
    have a1 := (nk_nd hC (gg_g hg) k).2.2.1
    rw [← e, (fx_g hC.2.2.1 (gg_g hg)).2.1.2.2.2.2.1] at a1
    omega
  have g0 : g ≠ nk S (g + 3) (g + 5) k + 1 := fun e => by
    have a1 := (nk_nd hC (gg_g hg) k).2.2.1
    rw [← e, (fx_g hC.2.2.1 (gg_g hg)).1.1] at a1
    omega
  have eB : zB S' (g + 5) = zB S (g + 5) := (hE (g + 5) (Or.inr (Or.inr (Or.inr (Or.inl rfl)))) g5).2.2.2.2.1
  have en : ∀ i, nk S' (g + 3) (g + 5) i = nk S (g + 3) (g + 5) i := fun i => by unfold nk; rw [eB]
  have e1 := fun i => hE _ (tc_nk (S := S) (g := g) i).1 (nk_r1 hC (gg_g hg) i k)
  have eF : ∀ j, nF S' j (g + 3) (g + 5) = nF S j (g + 3) (g + 5) := fun j => by
    funext i
    unfold nF
    rw [en i, (e1 i).2.2.1]
  refine ⟨by unfold cn; rw [(hE g (Or.inl rfl) g0).2.2.1]; exact h1, fun k k1 k2 => by rw [eB]; exact h2 k k1 k2, by rw [eF 0, eF 2, eF 3]; exact h3, fun i hi => ?_⟩
  obtain ⟨a1, a2, a3⟩ := h4 i hi
  rw [eF 0, eF 1, en i]
  refine ⟨a1, ⟨by rw [(e1 i).2.2.1]; exact a2.1, by rw [(e1 i).2.2.1]; exact a2.2⟩, ?_⟩
  show RWL S' _ (if i = k then r else tR T i)
  by_cases e : i = k
  · rw [if_pos e, e]; exact hr
  · rw [if_neg e]
    exact eqc_rl (hE _ (tc_nk (S := S) (g := g) i).2 (fun ee => e (hij i hi (by omega)))) (nk_nd hC (gg_g hg) i).2.2.1 a3
/-- which node the class gets -/
theorem p_at {x1 : Int32} {c : Nat} {S1 : ZS} (hC : CG S) (hg : g = 35 ∨ g = 99) (h : TRc S g T) (h0 : 0 ≤ x1.toInt) (h1 : x1.toInt ≤ (tn T : Int)) (hf : f_X1_at g x1 S = some (c, S1)) : S1 = S ∧ c = nk S (g + 3) (g + 5) x1.toInt.toNat := by
  obtain ⟨⟨kg, -, p1, p2, -⟩, -⟩ := fx_g hC.2.2.1 hg
  obtain ⟨a1, -, a3⟩ := ok_of (t_f_X1_at (x1 := x1) hC.1 kg) hf
  exact ⟨a1, by rw [← nd_nk hC.1 kg p1 p2 h0 (by rw [h.1]; exact h1)]; exact a3⟩
end TRS
section CWC
variable {S S' : ZS} {g k : Nat} {T : TRa} {o : Int32 × ZS} {x1 x2 : Int32}
theorem cwc_12 (hC : CG S) (hg : g = 35 ∨ g = 99) (h : TRc S g T) : ∀ (n : Nat) (l : List Nat) (x3 x4 : Int32), chn (nF S 3 (g + 3) (g + 5)) l x3.toInt → (∀ k ∈ l, 1 ≤ k ∧ k ≤ tn T) → 0 ≤ x4.toInt → x4.toInt + (l.length : Int) ≤ 300 → f_X1_childWith_12 n g x2 x3 x4 S = some o → o.1.toInt = chL (tM T) x2.toInt l := by
  intro n
  induction n with
  | zero => intro l x3 x4 _ _ _ _ hf; cases hf
  | succ n ih =>
    intro l x3 x4 hc hm h4 hl hf
    have hf : f_X1_childWith_12s (f_X1_childWith_12 n) g x2 x3 x4 S = some o := hf
    cases l with
    | nil =>
      have hc' : x3.toInt = -1 := hc
      unfold f_X1_childWith_12s at hf
      rcases m_ifE hf with ⟨c1, hf⟩ | ⟨c1, hf⟩
      · skip
        replace c1 := ti_leP (a := (300 : Int32)) (b := x4) c1 (show (300 : Int32).toInt = 300 from rfl) rfl
        unfold f_X1_childWith_52 at hf
        cases hf
        try dsimp only
        exact hc'
      · skip
        replace c1 := ti_leN (a := (300 : Int32)) (b := x4) c1 (show (300 : Int32).toInt = 300 from rfl) rfl
        rcases m_ifE hf with ⟨c2, hf⟩ | ⟨c2, hf⟩
        · skip
          replace c2 := ti_eqP (a := x3) (b := (-1 : Int32)) c2 rfl (show (-1 : Int32).toInt = -1 from rfl)
          unfold f_X1_childWith_52 at hf
          cases hf
          try dsimp only
          exact hc'
        · skip
          replace c2 := ti_eqN (a := x3) (b := (-1 : Int32)) c2 rfl (show (-1 : Int32).toInt = -1 from rfl)
          exact absurd hc' (by omega)
    | cons k l =>
      obtain ⟨hc1, hc2⟩ := hc
      have hk := hm k List.mem_cons_self
      have ll : ((k :: l).length : Int) = (l.length : Int) + 1 := rfl
      have hkM := (h.2.2.2 k hk.2).1.2
      unfold f_X1_childWith_12s at hf
      rcases m_ifE hf with ⟨c1, hf⟩ | ⟨c1, hf⟩
      · skip
        replace c1 := ti_leP (a := (300 : Int32)) (b := x4) c1 (show (300 : Int32).toInt = 300 from rfl) rfl
        omega
      · skip
        replace c1 := ti_leN (a := (300 : Int32)) (b := x4) c1 (show (300 : Int32).toInt = 300 from rfl) rfl
        rcases m_ifE hf with ⟨c2, hf⟩ | ⟨c2, hf⟩
        · skip
          replace c2 := ti_eqP (a := x3) (b := (-1 : Int32)) c2 rfl (show (-1 : Int32).toInt = -1 from rfl)
          omega
        · skip
          replace c2 := ti_eqN (a := x3) (b := (-1 : Int32)) c2 rfl (show (-1 : Int32).toInt = -1 from rfl)
          obtain ⟨-, hf⟩ := m_chkE hf
          obtain ⟨r1, h_r1, hf⟩ := m_calR hf (fun _ h => ro_X1_at h)
          dsimp only at hf
          obtain ⟨-, q1⟩ := p_at hC hg h (by omega) (by omega) h_r1
          have ek : x3.toInt.toNat = k := by omega
          rw [ek] at q1
          have m1 : (zI S 1 r1).toInt = tM T k := by rw [q1]; exact hkM
          obtain ⟨-, hf⟩ := m_chkE hf
          rcases m_ifE hf with ⟨c3, hf⟩ | ⟨c3, hf⟩
          · skip
            replace c3 := ti_eqP (a := (zI S 1 r1)) (b := x2) c3 rfl rfl
            unfold f_X1_childWith_52 at hf
            cases hf
            try dsimp only
            show x3.toInt = if tM T k = x2.toInt then (k : Int) else _
            rw [if_pos (by omega)]
            exact hc1
          · skip
            replace c3 := ti_eqN (a := (zI S 1 r1)) (b := x2) c3 rfl rfl
            obtain ⟨-, hf⟩ := m_chkE hf
            obtain ⟨r2, h_r2, hf⟩ := m_calR hf (fun _ h => ro_X1_at h)
            dsimp only at hf
            obtain ⟨-, q2⟩ := p_at hC hg h (by omega) (by omega) h_r2
            rw [ek] at q2
            obtain ⟨-, hf⟩ := m_chkE hf
            obtain ⟨v3, e_v3, hf⟩ := m_bndE hf
            have t_v3 : v3.toInt = x4.toInt + 1 := ti_add e_v3 rfl (show (1 : Int32).toInt = 1 from rfl) (by omega) (by omega)
            show o.1.toInt = if tM T k = x2.toInt then (k : Int) else chL (tM T) x2.toInt l
            rw [if_neg (by omega)]
            refine ih l (zI S 3 r2) v3 ?_ (fun j hj => hm j (List.mem_cons_of_mem _ hj)) (by omega) (by omega) hf
            rw [q2]
            exact hc2
theorem p_childWith (hC : CG S) (hg : g = 35 ∨ g = 99) (h : TRc S g T) (h3 : tn T ≤ 300) (h1 : x1.toInt = (k : Int)) (hk : k ≤ tn T) (hf : f_X1_childWith g x1 x2 S = some o) : o.1.toInt = chL (tM T) x2.toInt (tL T k) := by
  have hf : f_X1_childWith_0 g x1 x2 S = some o := hf
  have ht := h.2.2.1 k hk
  have hl := chn_len h.2.2.1 hk
  have z0 : (0 : Int32).toInt = 0 := rfl
  unfold f_X1_childWith_0 at hf
  obtain ⟨-, hf⟩ := m_chkE hf
  obtain ⟨r1, h_r1, hf⟩ := m_calR hf (fun _ h => ro_X1_at h)
  dsimp only at hf
  obtain ⟨-, q1⟩ := p_at hC hg h (by omega) (by omega) h_r1
  rw [show x1.toInt.toNat = k by omega] at q1
  obtain ⟨-, hf⟩ := m_chkE hf
  refine cwc_12 hC hg h mFuel (tL T k) (zI S 2 r1) 0 ?_ (fun j hj => ?_) (by decide) (by omega) hf
  · rw [q1]; exact ht.1
  · have := (ht.2.2 j).1 hj
    exact ⟨this.1, this.2.1⟩
end CWC
/-- the tree of the reference's game g -/
noncomputable def TRr (A : Nat → Nat → Int32) (g : Nat) (T : TRa) : Prop := aK A g = tn T ∧ TTl (tn T) (aP A g) (aC A g) (aN A g) (tL T) ∧ ∀ k, k ≤ tn T → (aP A g k = tP T k ∧ aM A g k = tM T k) ∧ NKr A (301 * g + k) (tK T k) ∧ NRr A (301 * g + k) (tR T k)
section CWR
variable {I : Nat → Int32} {A A' : Nat → Nat → Int32} {g k : Nat} {T : TRa} {o : Int32 × MS} {x1 x2 x3 : Int32} {K r : List Int}
theorem trr_e (hg : g ≤ 1) (h3 : tn T ≤ 300) (h : TRr A g T) (e7 : A' 7 g = A 7 g) (e : ∀ j, (8 ≤ j ∧ j ≤ 15) → A' j = A j) : TRr A' g T := by
  obtain ⟨h1, h2, h4⟩ := h
  have e8 : aP A' g = aP A g := by funext k; unfold aP; rw [e 8 (by decide)]
  have e9 : aM A' g = aM A g := by funext k; unfold aM; rw [e 9 (by decide)]
  have e10 : aC A' g = aC A g := by funext k; unfold aC; rw [e 10 (by decide)]
  have e11 : aN A' g = aN A g := by funext k; unfold aN; rw [e 11 (by decide)]
  refine ⟨by unfold aK; rw [e7]; exact h1, by rw [e8, e10, e11]; exact h2, fun k hk => ?_⟩
  rw [e8, e9]
  unfold NKr NRr
  rw [e 12 (by decide), e 13 (by decide), e 14 (by decide), e 15 (by decide)]
  exact h4 k hk
theorem trr_mk {I I' : Nat → Int32} (h : TRr A g T) (hw : WT T) (hF : RFk I I' A A' (301 * g + k)) (hm : NKr A' (301 * g + k) K) : TRr A' g (mkT T k K) := by
  obtain ⟨h1, h2, h4⟩ := h
  obtain ⟨-, f1, f2, f3⟩ := hF
  have e := fun j a b => f1 j a b
  have e8 : aP A' g = aP A g := by funext k; unfold aP; rw [e 8 (by decide) (by decide)]
  have e9 : aM A' g = aM A g := by funext k; unfold aM; rw [e 9 (by decide) (by decide)]
  have e10 : aC A' g = aC A g := by funext k; unfold aC; rw [e 10 (by decide) (by decide)]
  have e11 : aN A' g = aN A g := by funext k; unfold aN; rw [e 11 (by decide) (by decide)]
  refine ⟨by unfold aK; rw [e 7 (by decide) (by decide)]; exact h1, by rw [e8, e10, e11]; exact h2, fun i hi => ?_⟩
  obtain ⟨a1, a2, a3⟩ := h4 i hi
  rw [e8, e9]
  refine ⟨a1, ?_, by unfold NRr; rw [e 14 (by decide) (by decide), e 15 (by decide) (by decide)]; exact a3⟩
  show NKr A' _ (if i = k then K else tK T i)
  by_cases ei : i = k
  · rw [if_pos ei, ei]; exact hm
  · rw [if_neg ei]
    refine ⟨by rw [f2 _ (by omega)]; exact a2.1, fun j hj => ?_⟩
    have l4 := (hw.2.2.1 i).2
    rw [f3 _ (by omega)]
    exact a2.2 j hj
theorem trr_rk {I I' : Nat → Int32} (h : TRr A g T) (hw : WT T) (hF : RFm I I' A A' (301 * g + k)) (hm : NRr A' (301 * g + k) r) : TRr A' g (rkT T k r) := by
  obtain ⟨h1, h2, h4⟩ := h
  obtain ⟨-, f1, f2, f3⟩ := hF
  have e := fun j a b => f1 j a b
  have e8 : aP A' g = aP A g := by funext k; unfold aP; rw [e 8 (by decide) (by decide)]
  have e9 : aM A' g = aM A g := by funext k; unfold aM; rw [e 9 (by decide) (by decide)]
  have e10 : aC A' g = aC A g := by funext k; unfold aC; rw [e 10 (by decide) (by decide)]
  have e11 : aN A' g = aN A g := by funext k; unfold aN; rw [e 11 (by decide) (by decide)]
  refine ⟨by unfold aK; rw [e 7 (by decide) (by decide)]; exact h1, by rw [e8, e10, e11]; exact h2, fun i hi => ?_⟩
  obtain ⟨a1, a2, a3⟩ := h4 i hi
  rw [e8, e9]
  refine ⟨a1, by unfold NKr; rw [e 12 (by decide) (by decide), e 13 (by decide) (by decide)]; exact a2, ?_⟩
  show NRr A' _ (if i = k then r else tR T i)
  by_cases ei : i = k
  · rw [if_pos ei, ei]; exact hm
  · rw [if_neg ei]
    have l2 := (hw.2.2.1 i).1
    refine ⟨by rw [f2 _ (by omega)]; exact a3.1, fun j hj => ?_⟩
    rw [f3 _ (by omega)]
    exact a3.2 j hj
theorem cv_14 (hg : g ≤ 1) (h3' : tn T ≤ 300) (h : TRr A g T) (h1 : x1.toInt = (g : Int)) : ∀ (n : Nat) (l : List Nat) (x4 : Int32), chn (aN A g) l x4.toInt → (∀ k ∈ l, 1 ≤ k ∧ k ≤ tn T) → f_childWith_14 n x1 x3 x4 I A = some o → o.2 = (I, A) ∧ o.1.toInt = chL (tM T) x3.toInt l := by
  intro n
  induction n with
  | zero => intro l x4 _ _ hf; cases hf
  | succ n ih =>
    intro l x4 hc hm hf
    have hf : f_childWith_14s (f_childWith_14 n) x1 x3 x4 I A = some o := hf
    cases l with
    | nil =>
      have hc' : x4.toInt = -1 := hc
      unfold f_childWith_14s at hf
      rcases m_ifE hf with ⟨c1, hf⟩ | ⟨c1, hf⟩
      · skip
        replace c1 := ti_ltP (a := x4) (b := (0 : Int32)) c1 rfl (show (0 : Int32).toInt = 0 from rfl)
        unfold f_childWith_54 at hf
        cases hf
        try dsimp only
        exact ⟨rfl, hc'⟩
      · skip
        replace c1 := ti_ltN (a := x4) (b := (0 : Int32)) c1 rfl (show (0 : Int32).toInt = 0 from rfl)
        exact absurd hc' (by omega)
    | cons k l =>
      obtain ⟨hc1, hc2⟩ := hc
      have hk := hm k List.mem_cons_self
      have hkM := (h.2.2 k hk.2).1.2
      unfold f_childWith_14s at hf
      rcases m_ifE hf with ⟨c1, hf⟩ | ⟨c1, hf⟩
      · skip
        replace c1 := ti_ltP (a := x4) (b := (0 : Int32)) c1 rfl (show (0 : Int32).toInt = 0 from rfl)
        omega
      · skip
        replace c1 := ti_ltN (a := x4) (b := (0 : Int32)) c1 rfl (show (0 : Int32).toInt = 0 from rfl)
        obtain ⟨v1, e_v1, hf⟩ := m_bndE hf
        have t_v1 : v1.toInt = 301 * x1.toInt := ti_mul e_v1 (show (301 : Int32).toInt = 301 from rfl) rfl (by omega) (by omega)
        obtain ⟨v2, e_v2, hf⟩ := m_bndE hf
        have t_v2 : v2.toInt = v1.toInt + x4.toInt := ti_add e_v2 rfl rfl (by omega) (by omega)
        obtain ⟨-, hf⟩ := m_chkE hf
        obtain ⟨v3, e_v3, hf⟩ := m_bndE hf
        have t3 : v3.toInt = tM T k := by rw [e_v3, cl_n (n := 301 * g + k) (by omega)]; exact hkM
        rcases m_ifE hf with ⟨c2, hf⟩ | ⟨c2, hf⟩
        · skip
          replace c2 := ti_eqP (a := v3) (b := x3) c2 rfl rfl
          unfold f_childWith_54 at hf
          cases hf
          try dsimp only
          refine ⟨rfl, ?_⟩
          show x4.toInt = if tM T k = x3.toInt then (k : Int) else _
          rw [if_pos (by omega)]
          exact hc1
        · skip
          replace c2 := ti_eqN (a := v3) (b := x3) c2 rfl rfl
          obtain ⟨v4, e_v4, hf⟩ := m_bndE hf
          have t_v4 : v4.toInt = 301 * x1.toInt := ti_mul e_v4 (show (301 : Int32).toInt = 301 from rfl) rfl (by omega) (by omega)
          obtain ⟨v5, e_v5, hf⟩ := m_bndE hf
          have t_v5 : v5.toInt = v4.toInt + x4.toInt := ti_add e_v5 rfl rfl (by omega) (by omega)
          obtain ⟨-, hf⟩ := m_chkE hf
          obtain ⟨v6, e_v6, hf⟩ := m_bndE hf
          have t6 : v6.toInt = aN A g k := by rw [e_v6, cl_n (n := 301 * g + k) (by omega)]; rfl
          show _ ∧ o.1.toInt = if tM T k = x3.toInt then (k : Int) else chL (tM T) x3.toInt l
          rw [if_neg (by omega)]
          exact ih l v6 (by rw [t6]; exact hc2) (fun j hj => hm j (List.mem_cons_of_mem _ hj)) hf
theorem v_childWith (hg : g ≤ 1) (h3' : tn T ≤ 300) (h : TRr A g T) (h1 : x1.toInt = (g : Int)) (h2 : x2.toInt = (k : Int)) (hk : k ≤ tn T) (hf : f_childWith x1 x2 x3 I A = some o) : o.2 = (I, A) ∧ o.1.toInt = chL (tM T) x3.toInt (tL T k) := by
  have hf : f_childWith_0 x1 x2 x3 I A = some o := hf
  have ht := h.2.1 k hk
  unfold f_childWith_0 at hf
  obtain ⟨v1, e_v1, hf⟩ := m_bndE hf
  have t_v1 : v1.toInt = 301 * x1.toInt := ti_mul e_v1 (show (301 : Int32).toInt = 301 from rfl) rfl (by omega) (by omega)
  obtain ⟨v2, e_v2, hf⟩ := m_bndE hf
  have t_v2 : v2.toInt = v1.toInt + x2.toInt := ti_add e_v2 rfl rfl (by omega) (by omega)
  obtain ⟨-, hf⟩ := m_chkE hf
  obtain ⟨v3, e_v3, hf⟩ := m_bndE hf
  have t3 : v3.toInt = aC A g k := by rw [e_v3, cl_n (n := 301 * g + k) (by omega)]; rfl
  refine cv_14 hg h3' h h1 mFuel (tL T k) v3 (by rw [t3]; exact ht.1) (fun j hj => ?_) hf
  have := (ht.2.2 j).1 hj
  exact ⟨this.1, this.2.1⟩
end CWR
end
section
/-- how large a game's part of a table is -/
noncomputable def sz (j : Nat) : Nat := if j = 7 ∨ j = 18 ∨ j = 23 then 1 else if j = 13 then 1204 else if j = 15 then 60200 else if j = 16 then 64 else if j = 17 then 5 else if j = 19 ∨ j = 21 then 8 else if j = 20 then 96 else if j = 22 then 768 else 301
/-- only the tables of game g change, and what belongs to no game -/
noncomputable def RDf (A A' : Nat → Nat → Int32) (g : Nat) : Prop := (∀ j, j < 7 → A' j = A j) ∧ ∀ j, 7 ≤ j → j ≤ 23 → ∀ i, i / sz j ≠ g → A' j i = A j i
section APS
variable {I I' : Nat → Int32} {A A1 A2 A' : Nat → Nat → Int32} {g h p k : Nat} {T : TRa} {o : Int32 × MS} {x1 x2 x3 x4 : Int32}
theorem rdf_0 : RDf A A g := ⟨fun _ _ => rfl, fun _ _ _ _ _ => rfl⟩
theorem rdf_t (h : RDf A A1 g) (k : RDf A1 A2 g) : RDf A A2 g := ⟨fun j hj => (k.1 j hj).trans (h.1 j hj), fun j h1 h2 i hi => (k.2 j h1 h2 i hi).trans (h.2 j h1 h2 i hi)⟩
theorem rdf_hi (h : ∀ j, j ≤ 23 → A' j = A j) : RDf A A' g := ⟨fun j hj => h j (by omega), fun j _ h2 i _ => by rw [h j h2]⟩
theorem rdf_rm (h : RFm I I' A A' (301 * g + k)) (hk : k ≤ 300) : RDf A A' g := by
  obtain ⟨-, f1, f2, f3⟩ := h
  refine ⟨fun j hj => f1 j (by omega) (by omega), fun j h1 h2 i hi => ?_⟩
  by_cases e14 : j = 14
  · subst e14
    have s : sz 14 = 301 := rfl
    rw [s] at hi
    exact f2 i (by omega)
  · by_cases e15 : j = 15
    · subst e15
      have s : sz 15 = 60200 := rfl
      rw [s] at hi
      exact f3 i (by omega)
    · rw [f1 j e14 e15]
theorem rdf_rk (h : RFk I I' A A' (301 * g + k)) (hk : k ≤ 300) : RDf A A' g := by
  obtain ⟨-, f1, f2, f3⟩ := h
  refine ⟨fun j hj => f1 j (by omega) (by omega), fun j h1 h2 i hi => ?_⟩
  by_cases e14 : j = 12
  · subst e14
    have s : sz 12 = 301 := rfl
    rw [s] at hi
    exact f2 i (by omega)
  · by_cases e15 : j = 13
    · subst e15
      have s : sz 13 = 1204 := rfl
      rw [s] at hi
      exact f3 i (by omega)
    · rw [f1 j e14 e15]
/-- the loop that looks for the last child -/
theorem ap_94 (hg : g ≤ 1) (h1 : x1.toInt = (g : Int)) {n0 : Nat} (hn : n0 ≤ 300) : ∀ (n : Nat) (l : List Nat) (x5 : Int32), chn (aN A g) l x5.toInt → (hl : l ≠ []) → (∀ k ∈ l, 1 ≤ k ∧ k ≤ n0) → f_append_94 n x1 x4 x5 I A = some o → o = (x4, (I, va_up A 11 (upd (A 11) (301 * g + l.getLast hl) x4))) := by
  intro n
  induction n with
  | zero => intro l x5 _ _ _ hf; cases hf
  | succ n ih =>
    intro l x5 hc hl hm hf
    have hf : f_append_94s (f_append_94 n) x1 x4 x5 I A = some o := hf
    cases l with
    | nil => exact absurd rfl hl
    | cons k l =>
      obtain ⟨hc1, hc2⟩ := hc
      have hk := hm k List.mem_cons_self
      unfold f_append_94s at hf
      obtain ⟨v1, e_v1, hf⟩ := m_bndE hf
      have t_v1 : v1.toInt = 301 * x1.toInt := ti_mul e_v1 (show (301 : Int32).toInt = 301 from rfl) rfl (by omega) (by omega)
      obtain ⟨v2, e_v2, hf⟩ := m_bndE hf
      have t_v2 : v2.toInt = v1.toInt + x5.toInt := ti_add e_v2 rfl rfl (by omega) (by omega)
      obtain ⟨-, hf⟩ := m_chkE hf
      obtain ⟨v3, e_v3, hf⟩ := m_bndE hf
      have t3 : v3.toInt = aN A g k := by rw [e_v3, cl_n (n := 301 * g + k) (by omega)]; rfl
      rcases m_ifE hf with ⟨c1, hf⟩ | ⟨c1, hf⟩
      · skip
        replace c1 := ti_ltP (a := v3) (b := (0 : Int32)) c1 rfl (show (0 : Int32).toInt = 0 from rfl)
        obtain ⟨v4, e_v4, hf⟩ := m_bndE hf
        have t_v4 : v4.toInt = 301 * x1.toInt := ti_mul e_v4 (show (301 : Int32).toInt = 301 from rfl) rfl (by omega) (by omega)
        obtain ⟨v5, e_v5, hf⟩ := m_bndE hf
        have t_v5 : v5.toInt = v4.toInt + x5.toInt := ti_add e_v5 rfl rfl (by omega) (by omega)
        obtain ⟨-, hf⟩ := m_chkE hf
        obtain ⟨A6, e_A6, hf⟩ := m_bndE hf
        unfold f_append_143 at hf
        cases hf
        try dsimp only
        have l0 : l = [] := chn_nil (v := aN A g k) hc2 (by omega)
        subst l0
        rw [e_A6, cl_n (n := 301 * g + k) (by omega)]
        rfl
      · skip
        replace c1 := ti_ltN (a := v3) (b := (0 : Int32)) c1 rfl (show (0 : Int32).toInt = 0 from rfl)
        obtain ⟨v7, e_v7, hf⟩ := m_bndE hf
        have t_v7 : v7.toInt = 301 * x1.toInt := ti_mul e_v7 (show (301 : Int32).toInt = 301 from rfl) rfl (by omega) (by omega)
        obtain ⟨v8, e_v8, hf⟩ := m_bndE hf
        have t_v8 : v8.toInt = v7.toInt + x5.toInt := ti_add e_v8 rfl rfl (by omega) (by omega)
        obtain ⟨-, hf⟩ := m_chkE hf
        obtain ⟨v9, e_v9, hf⟩ := m_bndE hf
        have t9 : v9.toInt = aN A g k := by rw [e_v9, cl_n (n := 301 * g + k) (by omega)]; rfl
        have ln : l ≠ [] := fun e => by
          rw [e] at hc2
          have : aN A g k = -1 := hc2
          omega
        rw [List.getLast_cons ln]
        exact ih l v9 (by rw [t9]; exact hc2) ln (fun j hj => hm j (List.mem_cons_of_mem _ hj)) hf
theorem upd_i {f : Nat → Int32} {i j : Nat} {v : Int32} : upd f i v j = if j = i then v else f j := by
  by_cases e : j = i
  · rw [if_pos e, e, upd_self]
  · rw [if_neg e, upd_ne e]
/-- the reference's tree with a node more -/
theorem v_append (hg : g ≤ 1) (hA : TK A) (hw : WT T) (h : TRr A g T) (h1 : x1.toInt = (g : Int)) (h2 : x2.toInt = (p : Int)) (hp : p ≤ tn T) (h3 : 0 ≤ x3.toInt ∧ x3.toInt ≤ 24575) (hn : tn T ≤ 299) (hf : f_append x1 x2 x3 I A = some o) : o.1.toInt = ((tn T + 1 : Nat) : Int) ∧ o.2.1 = I ∧ TK o.2.2 ∧ TRr o.2.2 g (grT T p x3.toInt) ∧ RDf A o.2.2 g ∧ ∀ j, 15 ≤ j → o.2.2 j = A j := by
  have hf : f_append_0 x1 x2 x3 I A = some o := hf
  obtain ⟨t1, t2, t3⟩ := id h
  have hix : x1.toNatClampNeg = g := cl_n h1
  have hk7 := tA_7 hA g
  have hkk : (A 7 g).toInt = (tn T : Int) := by unfold aK at t1; omega
  have z1 : (1 : Int32).toInt = 1 := rfl
  -- what is left to show, once all is written
  have fin : ∀ (A' : Nat → Nat → Int32) (v4 : Int32), v4.toInt = ((tn T + 1 : Nat) : Int) → TK A' → A' 7 = upd (A 7) g v4 → A' 8 = upd (A 8) (301 * g + (tn T + 1)) x2 → A' 9 = upd (A 9) (301 * g + (tn T + 1)) x3 → A' 12 = upd (A 12) (301 * g + (tn T + 1)) 0 → A' 14 = upd (A 14) (301 * g + (tn T + 1)) 0 → (∀ j, j < 7 ∨ j = 13 ∨ 15 ≤ j → A' j = A j) → (∀ i, i / 301 ≠ g → A' 10 i = A 10 i ∧ A' 11 i = A 11 i) →
      (∀ j, j ≤ 300 → aC A' g j = if j = tn T + 1 then -1 else if j = p ∧ tL T p = [] then ((tn T + 1 : Nat) : Int) else aC A g j) → (tL T p = [] → ∀ j, j ≤ 300 → aN A' g j = if j = tn T + 1 then -1 else aN A g j) → (∀ hl : tL T p ≠ [], ∀ j, j ≤ 300 → aN A' g j = if j = (tL T p).getLast hl then ((tn T + 1 : Nat) : Int) else if j = tn T + 1 then -1 else aN A g j) → TK A' ∧ TRr A' g (grT T p x3.toInt) ∧ RDf A A' g ∧ ∀ j, 15 ≤ j → A' j = A j := by
    intro A' v4 hv4 hK f7 f8 f9 f12 f14 fo fo2 fC fNa fNb
    have hb : TTb (tn T) (aP A g) (fun _ => 0) := fun k k1 k2 => by
      rw [(t3 k k2).1.1]
      exact ⟨((hw.2.1 k k1 k2).1), Int.le_refl _⟩
    have eP : ∀ j, aP A' g j = if j = tn T + 1 then (p : Int) else aP A g j := fun j => by
      unfold aP
      rw [f8, upd_i]
      by_cases e : j = tn T + 1
      · rw [if_pos e, if_pos (by omega)]; exact h2
      · rw [if_neg e, if_neg (by omega)]
    have eM : ∀ j, aM A' g j = if j = tn T + 1 then x3.toInt else aM A g j := fun j => by
      unfold aM
      rw [f9, upd_i]
      by_cases e : j = tn T + 1
      · rw [if_pos e, if_pos (by omega)]
      · rw [if_neg e, if_neg (by omega)]
    have ml : ∀ hl : tL T p ≠ [], 1 ≤ (tL T p).getLast hl ∧ (tL T p).getLast hl ≤ tn T := fun hl => by
      have := ((t2 p hp).2.2 _).1 (List.getLast_mem hl)
      exact ⟨this.1, this.2.1⟩
    have hTTl : TTl (tn T + 1) (aP A' g) (aC A' g) (aN A' g) (fun q => if q = p then tL T p ++ [tn T + 1] else if q = tn T + 1 then [] else tL T q) := by
      refine TTl_app hb t2 hp (fun j hj => by rw [eP, if_neg (by omega)]) (by rw [eP, if_pos rfl]) (fun j hj hne => by rw [fC j (by omega), if_neg (by omega), if_neg (fun e => hne e.1)]) (fun hl => by rw [fC p (by omega), if_neg (by omega), if_neg (fun e => hl e.2)]) (fun hl => by rw [fC p (by omega), if_neg (by omega), if_pos ⟨rfl, hl⟩]) (by rw [fC _ (by omega), if_pos rfl]) (fun j hj hne => ?_) (fun hl => ?_) ?_
      · by_cases hl : tL T p = []
        · rw [fNa hl j (by omega), if_neg (by omega)]
        · rw [fNb hl j (by omega), if_neg (hne hl), if_neg (by omega)]
      · have := ml hl
        rw [fNb hl _ (by omega), if_pos rfl]
      · by_cases hl : tL T p = []
        · rw [fNa hl _ (by omega), if_pos rfl]
        · have := ml hl
          rw [fNb hl _ (by omega), if_neg (by omega), if_pos rfl]
    refine ⟨hK, ⟨?_, hTTl, fun k hk => ?_⟩, ⟨fun j hj => fo j (Or.inl hj), fun j j1 j2 i hi => ?_⟩, fun j hj => fo j (by omega)⟩
    · show (A' 7 g).toInt.toNat = tn T + 1
      rw [f7, upd_self, hv4]; rfl
    · show (aP A' g k = (if k = tn T + 1 then (p : Int) else tP T k) ∧ aM A' g k = (if k = tn T + 1 then x3.toInt else tM T k)) ∧ NKr A' (301 * g + k) (if k = tn T + 1 then [] else tK T k) ∧ NRr A' (301 * g + k) (if k = tn T + 1 then [] else tR T k)
      have hk' : k ≤ tn T + 1 := hk
      rw [eP, eM]
      by_cases e : k = tn T + 1
      · rw [if_pos e, if_pos e, if_pos e, if_pos e, if_pos e, if_pos e]
        refine ⟨⟨rfl, rfl⟩, ⟨by rw [f12, e, upd_self]; rfl, fun i hi => absurd hi (Nat.not_lt_zero _)⟩, by rw [f14, e, upd_self]; rfl, fun i hi => absurd hi (Nat.not_lt_zero _)⟩
      · rw [if_neg e, if_neg e, if_neg e, if_neg e, if_neg e, if_neg e]
        obtain ⟨a1, a2, a3⟩ := t3 k (by omega)
        refine ⟨a1, ⟨by rw [f12, upd_ne (by omega)]; exact a2.1, fun i hi => by rw [fo 13 (Or.inr (Or.inl rfl))]; exact a2.2 i hi⟩, by rw [f14, upd_ne (by omega)]; exact a3.1, fun i hi => by rw [fo 15 (Or.inr (Or.inr (by decide)))]; exact a3.2 i hi⟩
    · by_cases c1 : j = 13 ∨ 15 ≤ j
      · rw [fo j (by omega)]
      · have c2 : j = 7 ∨ j = 8 ∨ j = 9 ∨ j = 10 ∨ j = 11 ∨ j = 12 ∨ j = 14 := by omega
        rcases c2 with e | e | e | e | e | e | e <;> subst e
        · have s : sz 7 = 1 := rfl
          rw [s] at hi
          rw [f7, upd_ne (by omega)]
        · have s : sz 8 = 301 := rfl
          rw [s] at hi
          rw [f8, upd_ne (by omega)]
        · have s : sz 9 = 301 := rfl
          rw [s] at hi
          rw [f9, upd_ne (by omega)]
        · exact (fo2 i hi).1
        · exact (fo2 i hi).2
        · have s : sz 12 = 301 := rfl
          rw [s] at hi
          rw [f12, upd_ne (by omega)]
        · have s : sz 14 = 301 := rfl
          rw [s] at hi
          rw [f14, upd_ne (by omega)]
  unfold f_append_0 at hf
  obtain ⟨-, hf⟩ := m_chkE hf
  obtain ⟨v1, e_v1, hf⟩ := m_bndE hf
  have t1' : v1.toInt = (tn T : Int) := by rw [e_v1, hix]; exact hkk
  obtain ⟨v2, e_v2, hf⟩ := m_bndE hf
  have t_v2 : v2.toInt = v1.toInt + 1 := ti_add e_v2 rfl (show (1 : Int32).toInt = 1 from rfl) (by omega) (by omega)
  obtain ⟨-, hf⟩ := m_chkE hf
  obtain ⟨A3, e_A3, hf⟩ := m_bndE hf
  rw [hix] at e_A3
  have hA3 : TK A3 := e_A3.symm ▸ tk_u hA (j := 7) (show (0 : Int) ≤ v2.toInt by omega) (show v2.toInt ≤ (300 : Int) by omega)
  obtain ⟨-, hf⟩ := m_chkE hf
  obtain ⟨v4, e_v4, hf⟩ := m_bndE hf
  have e4 : v4 = v2 := by rw [e_v4, e_A3, hix, va_up_self, upd_self]
  have t4 : v4.toInt = ((tn T + 1 : Nat) : Int) := by rw [e4]; omega
  obtain ⟨v5, e_v5, hf⟩ := m_bndE hf
  have t_v5 : v5.toInt = 301 * x1.toInt := ti_mul e_v5 (show (301 : Int32).toInt = 301 from rfl) rfl (by omega) (by omega)
  obtain ⟨v6, e_v6, hf⟩ := m_bndE hf
  have t_v6 : v6.toInt = v5.toInt + v4.toInt := ti_add e_v6 rfl rfl (by omega) (by omega)
  obtain ⟨⟨r7, Ic7, Ac7⟩, h_r7, hf⟩ := m_clE hf
  dsimp only at hf
  have i6 : v6.toNatClampNeg = 301 * g + (tn T + 1) := cl_n (by omega)
  have q7 := clearNode_eq (I := I) (A := A3) (x1 := v6) (by omega)
  rw [q7, i6] at h_r7
  cases h_r7
  have hA7 := tk_cNd (i := 301 * g + (tn T + 1)) hA3
  obtain ⟨v8, e_v8, hf⟩ := m_bndE hf
  have t_v8 : v8.toInt = 301 * x1.toInt := ti_mul e_v8 (show (301 : Int32).toInt = 301 from rfl) rfl (by omega) (by omega)
  obtain ⟨v9, e_v9, hf⟩ := m_bndE hf
  have t_v9 : v9.toInt = v8.toInt + v4.toInt := ti_add e_v9 rfl rfl (by omega) (by omega)
  obtain ⟨-, hf⟩ := m_chkE hf
  obtain ⟨A10, e_A10, hf⟩ := m_bndE hf
  have i9 : v9.toNatClampNeg = 301 * g + (tn T + 1) := cl_n (by omega)
  rw [i9] at e_A10
  have hA10 : TK A10 := e_A10.symm ▸ tk_u hA7 (j := 8) (show (-1 : Int) ≤ x2.toInt by omega) (show x2.toInt ≤ (300 : Int) by omega)
  obtain ⟨v11, e_v11, hf⟩ := m_bndE hf
  have t_v11 : v11.toInt = 301 * x1.toInt := ti_mul e_v11 (show (301 : Int32).toInt = 301 from rfl) rfl (by omega) (by omega)
  obtain ⟨v12, e_v12, hf⟩ := m_bndE hf
  have t_v12 : v12.toInt = v11.toInt + v4.toInt := ti_add e_v12 rfl rfl (by omega) (by omega)
  obtain ⟨-, hf⟩ := m_chkE hf
  obtain ⟨A13, e_A13, hf⟩ := m_bndE hf
  have i12 : v12.toNatClampNeg = 301 * g + (tn T + 1) := cl_n (by omega)
  rw [i12] at e_A13
  have hA13 : TK A13 := e_A13.symm ▸ tk_u hA10 (j := 9) (show (-1 : Int) ≤ x3.toInt by omega) (show x3.toInt ≤ (24575 : Int) by omega)
  have s7 : A13 7 = upd (A 7) g v4 := by rw [e_A13, e_A10, e_A3, e4]; rfl
  have s8 : A13 8 = upd (A 8) (301 * g + (tn T + 1)) x2 := by rw [e_A13, e_A10, e_A3]; rfl
  have s9 : A13 9 = upd (A 9) (301 * g + (tn T + 1)) x3 := by rw [e_A13, e_A10, e_A3]; rfl
  have s10 : A13 10 = upd (A 10) (301 * g + (tn T + 1)) (-1) := by rw [e_A13, e_A10, e_A3]; rfl
  have s11 : A13 11 = upd (A 11) (301 * g + (tn T + 1)) (-1) := by rw [e_A13, e_A10, e_A3]; rfl
  have s12 : A13 12 = upd (A 12) (301 * g + (tn T + 1)) 0 := by rw [e_A13, e_A10, e_A3]; rfl
  have s14 : A13 14 = upd (A 14) (301 * g + (tn T + 1)) 0 := by rw [e_A13, e_A10, e_A3]; rfl
  have so : ∀ j, j < 7 ∨ j = 13 ∨ 15 ≤ j → A13 j = A j := fun j hj => by
    rw [e_A13, va_up_ne _ _ (by omega), e_A10, va_up_ne _ _ (by omega)]
    unfold cNd
    rw [va_up_ne _ _ (by omega), va_up_ne _ _ (by omega), va_up_ne _ _ (by omega), va_up_ne _ _ (by omega), e_A3, va_up_ne _ _ (by omega)]
  clear e_A13 e_A10 e_A3
  have aC13 : ∀ j, aC A13 g j = if j = tn T + 1 then -1 else aC A g j := fun j => by
    unfold aC
    rw [s10, upd_i]
    by_cases e : j = tn T + 1
    · rw [if_pos e, if_pos (by omega)]; rfl
    · rw [if_neg e, if_neg (by omega)]
  have aN13 : ∀ j, aN A13 g j = if j = tn T + 1 then -1 else aN A g j := fun j => by
    unfold aN
    rw [s11, upd_i]
    by_cases e : j = tn T + 1
    · rw [if_pos e, if_pos (by omega)]; rfl
    · rw [if_neg e, if_neg (by omega)]
  have hc := (t2 p hp).1
  obtain ⟨v14, e_v14, hf⟩ := m_bndE hf
  have t_v14 : v14.toInt = 301 * x1.toInt := ti_mul e_v14 (show (301 : Int32).toInt = 301 from rfl) rfl (by omega) (by omega)
  obtain ⟨v15, e_v15, hf⟩ := m_bndE hf
  have t_v15 : v15.toInt = v14.toInt + x2.toInt := ti_add e_v15 rfl rfl (by omega) (by omega)
  obtain ⟨-, hf⟩ := m_chkE hf
  obtain ⟨v16, e_v16, hf⟩ := m_bndE hf
  have w16 : v16.toInt = aC A g p := by
    have := aC13 p
    rw [if_neg (by omega)] at this
    rw [e_v16, cl_n (n := 301 * g + p) (by omega), ← this]; rfl
  rcases m_ifE hf with ⟨c1, hf⟩ | ⟨c1, hf⟩
  · skip
    replace c1 := ti_leP (a := (0 : Int32)) (b := v16) c1 (show (0 : Int32).toInt = 0 from rfl) rfl
    have ln : tL T p ≠ [] := fun e => by
      rw [e] at hc
      have : aC A g p = -1 := hc
      omega
    have mem : ∀ k ∈ tL T p, 1 ≤ k ∧ k ≤ tn T := fun k hk => by
      have := ((t2 p hp).2.2 k).1 hk
      exact ⟨this.1, this.2.1⟩
    have hc13 : chn (aN A13 g) (tL T p) v16.toInt := by
      rw [w16]
      exact chn_congr (fun k hk => by rw [aN13, if_neg (by have := mem k hk; omega)]) hc
    have q := ap_94 (n0 := tn T) hg h1 (by omega) mFuel (tL T p) v16 hc13 ln mem hf
    rw [q]
    dsimp only
    have lm := mem _ (List.getLast_mem ln)
    have o19 : ∀ j, j ≠ 11 → va_up A13 11 (upd (A13 11) (301 * g + (tL T p).getLast ln) v4) j = A13 j := fun j hj => va_up_ne _ _ hj
    have k19 : va_up A13 11 (upd (A13 11) (301 * g + (tL T p).getLast ln) v4) 11 = upd (A13 11) (301 * g + (tL T p).getLast ln) v4 := va_up_self _ _ _
    refine ⟨t4, rfl, fin _ v4 t4 (tk_u hA13 (j := 11) (show (-1 : Int) ≤ v4.toInt by omega) (show v4.toInt ≤ (300 : Int) by omega)) ((o19 7 (by decide)).trans s7) ((o19 8 (by decide)).trans s8) ((o19 9 (by decide)).trans s9) ((o19 12 (by decide)).trans s12) ((o19 14 (by decide)).trans s14) (fun j hj => (o19 j (by omega)).trans (so j hj)) (fun i hi => ⟨by rw [o19 10 (by decide), s10, upd_ne (by omega)], by rw [k19, upd_ne (by omega), s11, upd_ne (by omega)]⟩) (fun j hj => ?_) (fun e => absurd e ln) (fun hl j hj => ?_)⟩
    · unfold aC
      rw [o19 10 (by decide)]
      show aC A13 g j = _
      rw [aC13]
      by_cases e : j = tn T + 1
      · rw [if_pos e, if_pos e]
      · rw [if_neg e, if_neg e, if_neg (fun e2 => ln e2.2)]; rfl
    · unfold aN
      rw [k19, upd_i]
      by_cases e : j = (tL T p).getLast hl
      · rw [if_pos e, if_pos (by rw [e])]; exact t4
      · rw [if_neg e, if_neg (fun e2 => e (by omega))]
        exact aN13 j
  · skip
    replace c1 := ti_leN (a := (0 : Int32)) (b := v16) c1 (show (0 : Int32).toInt = 0 from rfl) rfl
    obtain ⟨v17, e_v17, hf⟩ := m_bndE hf
    have t_v17 : v17.toInt = 301 * x1.toInt := ti_mul e_v17 (show (301 : Int32).toInt = 301 from rfl) rfl (by omega) (by omega)
    obtain ⟨v18, e_v18, hf⟩ := m_bndE hf
    have t_v18 : v18.toInt = v17.toInt + x2.toInt := ti_add e_v18 rfl rfl (by omega) (by omega)
    obtain ⟨-, hf⟩ := m_chkE hf
    obtain ⟨A19, e_A19, hf⟩ := m_bndE hf
    unfold f_append_143 at hf
    cases hf
    try dsimp only
    have l0 : tL T p = [] := chn_nil (v := aC A g p) hc (by omega)
    have i18 : v18.toNatClampNeg = 301 * g + p := cl_n (by omega)
    rw [i18] at e_A19
    have o19 : ∀ j, j ≠ 10 → A19 j = A13 j := fun j hj => by rw [e_A19]; exact va_up_ne _ _ hj
    have k19 : A19 10 = upd (A13 10) (301 * g + p) v4 := by rw [e_A19]; exact va_up_self _ _ _
    refine ⟨t4, rfl, fin A19 v4 t4 (by rw [e_A19]; exact tk_u hA13 (j := 10) (show (-1 : Int) ≤ v4.toInt by omega) (show v4.toInt ≤ (300 : Int) by omega)) ((o19 7 (by decide)).trans s7) ((o19 8 (by decide)).trans s8) ((o19 9 (by decide)).trans s9) ((o19 12 (by decide)).trans s12) ((o19 14 (by decide)).trans s14) (fun j hj => (o19 j (by omega)).trans (so j hj)) (fun i hi => ⟨by rw [k19, upd_ne (by omega), s10, upd_ne (by omega)], by rw [o19 11 (by decide), s11, upd_ne (by omega)]⟩) (fun j hj => ?_) (fun _ j hj => by unfold aN; rw [o19 11 (by decide)]; exact aN13 j) (fun hl => absurd l0 hl)⟩
    unfold aC
    rw [k19, upd_i]
    by_cases e : j = p
    · rw [if_pos (by omega), if_neg (by omega), if_pos ⟨e, l0⟩]; exact t4
    · rw [if_neg (by omega)]
      have := aC13 j
      unfold aC at this
      rw [this]
      by_cases e2 : j = tn T + 1
      · rw [if_pos e2, if_pos e2]
      · rw [if_neg e2, if_neg e2, if_neg (fun e3 => e e3.1)]
end APS
end
section
section GRC
variable {S S' : ZS} {g g' p : Nat} {T : TRa} {o : Int32 × ZS} {x1 x2 x3 : Int32}
theorem gq_24 (hC : CG S) (hg : g = 35 ∨ g = 99) (h : TRc S g T) : ∀ (n : Nat) (l : List Nat) (x3 x4 : Int32), chn (nF S 3 (g + 3) (g + 5)) l x3.toInt → (∀ k ∈ l, 1 ≤ k ∧ k ≤ tn T) → 0 ≤ x4.toInt → x4.toInt + (l.length : Int) ≤ 300 → d_X1_grow_24 n g x1 x2 x3 x4 S = some o → ∃ y : Int32, (l = [] → y.toInt = -1) ∧ (∀ hl : l ≠ [], y.toInt = ((l.getLast hl : Nat) : Int)) ∧ d_X1_grow_64 g x1 x2 y S = some o := by
  intro n
  induction n with
  | zero => intro l x3 x4 _ _ _ _ hf; cases hf
  | succ n ih =>
    intro l x3 x4 hc hm h4 hl hf
    have hf : d_X1_grow_24s (d_X1_grow_24 n) g x1 x2 x3 x4 S = some o := hf
    cases l with
    | nil =>
      have hc' : x3.toInt = -1 := hc
      unfold d_X1_grow_24s at hf
      rcases m_ifE hf with ⟨c1, hf⟩ | ⟨c1, hf⟩
      · skip
        replace c1 := ti_leP (a := (300 : Int32)) (b := x4) c1 (show (300 : Int32).toInt = 300 from rfl) rfl
        exact ⟨x3, fun _ => hc', fun e => absurd rfl e, hf⟩
      · skip
        replace c1 := ti_leN (a := (300 : Int32)) (b := x4) c1 (show (300 : Int32).toInt = 300 from rfl) rfl
        rcases m_ifE hf with ⟨c2, hf⟩ | ⟨c2, hf⟩
        · skip
          replace c2 := ti_eqP (a := x3) (b := (-1 : Int32)) c2 rfl (show (-1 : Int32).toInt = -1 from rfl)
          exact ⟨x3, fun _ => hc', fun e => absurd rfl e, hf⟩
        · skip
          replace c2 := ti_eqN (a := x3) (b := (-1 : Int32)) c2 rfl (show (-1 : Int32).toInt = -1 from rfl)
          exact absurd hc' (by omega)
    | cons k l =>
      obtain ⟨hc1, hc2⟩ := hc
      have hk := hm k List.mem_cons_self
      have ll : ((k :: l).length : Int) = (l.length : Int) + 1 := rfl
      unfold d_X1_grow_24s at hf
      rcases m_ifE hf with ⟨c1, hf⟩ | ⟨c1, hf⟩
      · skip
        replace c1 := ti_leP (a := (300 : Int32)) (b := x4) c1 (show (300 : Int32).toInt = 300 from rfl) rfl
        omega
      · skip
        replace c1 := ti_leN (a := (300 : Int32)) (b := x4) c1 (show (300 : Int32).toInt = 300 from rfl) rfl
        rcases m_ifE hf with ⟨c2, hf⟩ | ⟨c2, hf⟩
        · skip
          replace c2 := ti_eqP (a := x3) (b := (-1 : Int32)) c2 rfl (show (-1 : Int32).toInt = -1 from rfl)
          omega
        · skip
          replace c2 := ti_eqN (a := x3) (b := (-1 : Int32)) c2 rfl (show (-1 : Int32).toInt = -1 from rfl)
          obtain ⟨-, hf⟩ := m_chkE hf
          obtain ⟨r1, h_r1, hf⟩ := m_calR hf (fun _ h => ro_X1_at h)
          dsimp only at hf
          obtain ⟨-, q1⟩ := p_at hC hg h (by omega) (by omega) h_r1
          have ek : x3.toInt.toNat = k := by omega
          rw [ek] at q1
          have m1 : (zI S 3 r1).toInt = nF S 3 (g + 3) (g + 5) k := by rw [q1]; rfl
          obtain ⟨-, hf⟩ := m_chkE hf
          obtain ⟨-, hf⟩ := m_chkE hf
          rcases m_ifE hf with ⟨c3, hf⟩ | ⟨c3, hf⟩
          · skip
            replace c3 := ti_eqP (a := (zI S 3 r1)) (b := (-1 : Int32)) c3 rfl (show (-1 : Int32).toInt = -1 from rfl)
            have l0 : l = [] := chn_nil (v := nF S 3 (g + 3) (g + 5) k) hc2 (by omega)
            subst l0
            exact ⟨x3, (fun e => by cases e), fun _ => hc1, hf⟩
          · skip
            replace c3 := ti_eqN (a := (zI S 3 r1)) (b := (-1 : Int32)) c3 rfl (show (-1 : Int32).toInt = -1 from rfl)
            obtain ⟨-, hf⟩ := m_chkE hf
            obtain ⟨r2, h_r2, hf⟩ := m_calR hf (fun _ h => ro_X1_at h)
            dsimp only at hf
            obtain ⟨-, q2⟩ := p_at hC hg h (by omega) (by omega) h_r2
            rw [ek] at q2
            obtain ⟨-, hf⟩ := m_chkE hf
            obtain ⟨-, hf⟩ := m_chkE hf
            obtain ⟨v3, e_v3, hf⟩ := m_bndE hf
            have t_v3 : v3.toInt = x4.toInt + 1 := ti_add e_v3 rfl (show (1 : Int32).toInt = 1 from rfl) (by omega) (by omega)
            have hc3 : chn (nF S 3 (g + 3) (g + 5)) l (zI S 3 r2).toInt := by rw [q2]; exact hc2
            have ln : l ≠ [] := fun e => by
              rw [e] at hc3
              have : (zI S 3 r2).toInt = -1 := hc3
              rw [q2, ← q1] at this
              exact c3 this
            obtain ⟨y, y1, y2, y3⟩ := ih l (zI S 3 r2) v3 hc3 (fun j hj => hm j (List.mem_cons_of_mem _ hj)) (by omega) (by omega) hf
            exact ⟨y, (fun e => by cases e), fun _ => by rw [List.getLast_cons ln]; exact y2 ln, y3⟩
/-- room for a node more: c -/
noncomputable def GXn (S SX : ZS) (g c n : Nat) : Prop := (zB SX (g + 5) (n + 1) = some c ∧ (∀ i, i ≠ n + 1 → zB SX (g + 5) i = zB S (g + 5) i)) ∧ (zI SX 3 g).toInt = ((n + 1 : Nat) : Int) ∧ (∀ j, j ≠ 3 → zI SX j g = zI S j g) ∧ FR (fun a => a = g ∨ a = g + 5) S SX ∧ (zB S (g + 5) (n + 1) = some c ∨ 18 ≤ zK S c ∧ 18 ≤ zK S (c + 1)) ∧ (109 ≤ c ∧ zK SX c = 4 ∧ zP SX 6 c = some (c + 1) ∧ zK SX (c + 1) = 6) ∧ ZT SX
theorem zNd_p (S : ZS) : zP (zNd S) 6 (zt S) = some (zt S + 1) := by
  unfold zNd
  show va_up (zP (zRw (zN6 S))) 6 (va_up (zP (zRw (zN6 S)) 6) (zt S) (some (zt S + 1))) 6 (zt S) = _
  rw [va_up_self, va_up_self]
theorem gq_64 (hC : CG S) (hg : g = 35 ∨ g = 99) (h : TRc S g T) (hn : tn T < 300) (hf : d_X1_grow_64 g x1 x2 x3 S = some o) : ∃ SX c, GXn S SX g c (tn T) ∧ d_X1_grow_102 g x1 x2 x3 SX = some o := by
  obtain ⟨⟨kg, p0, p1, p2, p4, p7⟩, ⟨k1, k2', k3, k4, k5, k6, k7⟩, -⟩ := fx_g hC.2.2.1 hg
  have hT := hC.1
  have hc := cn_le hT kg
  rw [h.1] at hc
  have G := (gm_of hC hg).1
  unfold d_X1_grow_64 at hf
  obtain ⟨-, hf⟩ := m_chkE hf
  obtain ⟨v1, e_v1, hf⟩ := m_bndE hf
  have t_v1 : v1.toInt = (zI S 3 g).toInt + 1 := ti_add e_v1 rfl (show (1 : Int32).toInt = 1 from rfl) (by omega) (by omega)
  obtain ⟨-, hf⟩ := m_chkE hf
  obtain ⟨S2, e_S2, hf⟩ := m_bndE hf
  have T2 : ZT S2 := e_S2.symm ▸ zt_I hT kg (by decide) (show (0 : Int) ≤ v1.toInt ∧ v1.toInt ≤ (300 : Int) by omega)
  have kk : zK S2 = zK S := by rw [e_S2]; rfl
  have pp : zP S2 = zP S := by rw [e_S2]; rfl
  have bb : zB S2 = zB S := by rw [e_S2]; rfl
  have i2 : zI S2 3 g = v1 := by rw [e_S2]; exact zI_self _ _ _ _
  have P2 : zP S2 2 g = some (g + 5) := by rw [pp]; exact p2
  have ix : (zI S2 3 g).toNatClampNeg = tn T + 1 := by rw [i2]; exact cl_n (by omega)
  have F2 : FR (fun a => a = g) S S2 := fr_I e_S2
  rw [ix] at hf
  obtain ⟨-, hf⟩ := m_chkE hf
  replace hf := m_calY hf P2
  obtain ⟨-, hf⟩ := m_chkE hf
  obtain ⟨-, hf⟩ := m_chkE hf
  obtain ⟨-, hf⟩ := m_chkE hf
  obtain ⟨v4, e_v4, hf⟩ := m_bndE hf
  rw [bb] at e_v4
  rcases m_optE hf with ⟨n_b5, hf⟩ | ⟨b5, h_b5, hf⟩
  · skip
    rw [n_b5] at e_v4
    have T0 : 18 ≤ zK S2 (zt S2) := T2.2.2.2.2.1 _ (Nat.le_refl _)
    have T1 : 18 ≤ zK S2 (zt S2 + 1) := T2.2.2.2.2.1 _ (by omega)
    obtain ⟨-, hf⟩ := m_chkE hf
    replace hf := m_calY hf P2
    obtain ⟨-, hf⟩ := m_chkE hf
    obtain ⟨q7, e_q7, hf⟩ := m_bndE hf
    obtain ⟨S8, e_S8, hf⟩ := m_bndE hf
    rw [e_q7] at e_S8 hf
    rw [e_S8] at hf
    obtain ⟨⟨r12, S13⟩, h_r12, hf⟩ := m_cal2E hf
    dsimp only at hf
    rw [init4 S2] at h_r12
    cases h_r12
    obtain ⟨-, hf⟩ := m_chkE hf
    obtain ⟨-, hf⟩ := m_chkE hf
    obtain ⟨-, hf⟩ := m_chkE hf
    obtain ⟨S16, e_S16, hf⟩ := m_bndE hf
    have hz : zB S2 (g + 5) (tn T + 1) = none := by rw [bb]; exact e_v4.symm
    have kb2 : zK S2 (g + 5) = 16 := by rw [kk]; exact k5
    obtain ⟨TX, -⟩ := rm_node (i := tn T + 1) T2 kb2 hz (by omega)
    obtain ⟨f1, f2, f3, f4, f5⟩ := nd_f S2
    obtain ⟨g1, g2, g3, -⟩ := nd_e S2
    have nN : ∀ a, zK S a < 18 → ¬ (a = zt S2 ∨ a = zt S2 + 1) := fun a ha e => by
      have := T2.2.2.2.2.1 a (by omega)
      rw [kk] at this
      omega
    have KX : ∀ a, zK S a < 18 → zK S16 a = zK S a := fun a ha => by
      rw [e_S16]
      show zK (zNd S2) a = _
      rw [f1 a (nN a ha), kk]
    have BX : ∀ a, a ≠ g + 5 → zB S16 a = zB S a := fun a ha => by
      rw [e_S16]
      show va_up (zB (zNd S2)) (g + 5) _ a = _
      rw [va_up_ne _ _ ha, g3, bb]
    have IX' : ∀ a j, zK S a < 18 → zI S16 j a = zI S2 j a := fun a j ha => by
      rw [e_S16]
      show zI (zNd S2) j a = _
      rw [f2 a j (nN a ha)]
    have PX : ∀ a j, zK S a < 18 → zP S16 j a = zP S j a := fun a j ha => by
      rw [e_S16]
      show zP (zNd S2) j a = _
      rw [f3 a j (nN a ha), pp]
    have NX : ∀ a, zN S16 a = zN S a := fun a => by
      rw [e_S16]
      show zN (zNd S2) a = _
      rw [g1, e_S2]; rfl
    have AX : ∀ a, zA S16 a = zA S a := fun a => by
      rw [e_S16]
      show zA (zNd S2) a = _
      rw [g2, e_S2]; rfl
    refine ⟨S16, zt S2, ⟨⟨?_, fun i hi => ?_⟩, ?_, fun j hj => ?_, fun a ha => ?_, Or.inr ⟨by rw [← kk]; exact T0, by rw [← kk]; exact T1⟩, ⟨T2.2.2.2.2.2.2.2.2.2.2.1, ?_, ?_, ?_⟩, by rw [e_S16]; exact TX⟩, hf⟩
    · rw [e_S16]
      show va_up (zB (zNd S2)) (g + 5) (va_up (zB (zNd S2) (g + 5)) (tn T + 1) (some (zt S2))) (g + 5) (tn T + 1) = _
      rw [va_up_self, va_up_self]
    · rw [e_S16]
      show va_up (zB (zNd S2)) (g + 5) (va_up (zB (zNd S2) (g + 5)) (tn T + 1) (some (zt S2))) (g + 5) i = _
      rw [va_up_self, va_up_ne _ _ hi, g3, bb]
    · rw [IX' g 3 (by rw [kg]; decide), i2]; omega
    · rw [IX' g j (by rw [kg]; decide), e_S2]; exact zI_j hj
    · refine ⟨⟨KX a ha, NX a, fun _ j => PX a j ha, fun k15 => BX a (fun e => by rw [e, k5] at k15; omega)⟩, fun hw => ⟨KX a ha, NX a, fun j => ?_, fun j => PX a j ha, BX a (fun e => hw (Or.inr e)), fun _ => AX a, fun _ c _ => AX c⟩⟩
      rw [IX' a j ha, e_S2]
      exact zI_b (fun e => hw (Or.inl e))
    · rw [e_S16]; exact f4
    · rw [e_S16]; exact zNd_p S2
    · rw [e_S16]; exact f5
  · skip
    rw [h_b5] at e_v4
    obtain ⟨a1, a2, a3, a4⟩ := G _ _ e_v4.symm
    refine ⟨S2, b5, ⟨⟨by rw [bb]; exact e_v4.symm, fun i _ => by rw [bb]⟩, by rw [i2]; omega, fun j hj => by rw [e_S2]; exact zI_j hj, fr_m F2 (fun a _ e => Or.inl e), Or.inl e_v4.symm, ⟨a1, by rw [kk]; exact a2, by rw [pp]; exact a3, by rw [kk]; exact a4⟩, T2⟩, hf⟩
/-- a node begins anew -/
theorem p_become {c : Nat} (hT : ZT S) (k4 : zK S c = 4) (p6 : zP S 6 c = some (c + 1)) (k6 : zK S (c + 1) = 6) (hf : f_X4_become c x1 x2 S = some o) : ZT o.2 ∧ FR (fun a => a = c ∨ a = c + 1) S o.2 ∧ (zI o.2 0 c = x1 ∧ zI o.2 1 c = x2 ∧ zI o.2 2 c = -1 ∧ zI o.2 3 c = -1) ∧ NMk o.2 c [] ∧ RWL o.2 (c + 1) [] := by
  have T2 : ZT o.2 := (ok_of (t_f_X4_become (SZ := S) (x1 := x1) (x2 := x2) hT (a7_0 S) k4) hf).1
  have hf : f_X4_become_0 c x1 x2 S = some o := hf
  unfold f_X4_become_0 at hf
  obtain ⟨-, hf⟩ := m_chkE hf
  obtain ⟨S1, e_S1, hf⟩ := m_bndE hf
  obtain ⟨-, hf⟩ := m_chkE hf
  obtain ⟨S2, e_S2, hf⟩ := m_bndE hf
  obtain ⟨-, hf⟩ := m_chkE hf
  obtain ⟨S3, e_S3, hf⟩ := m_bndE hf
  obtain ⟨-, hf⟩ := m_chkE hf
  obtain ⟨S4, e_S4, hf⟩ := m_bndE hf
  obtain ⟨-, hf⟩ := m_chkE hf
  obtain ⟨S5, e_S5, hf⟩ := m_bndE hf
  obtain ⟨-, hf⟩ := m_chkE hf
  obtain ⟨S6, e_S6, hf⟩ := m_bndE hf
  have p66 : zP S6 6 c = some (c + 1) := by rw [e_S6, e_S5, e_S4, e_S3, e_S2, e_S1]; exact p6
  have k66 : zK S6 (c + 1) = 6 := by rw [e_S6, e_S5, e_S4, e_S3, e_S2, e_S1]; exact k6
  have F6 : FR (fun a => a = c) S S6 := fr_t (fr_I e_S1) (fr_t (fr_I e_S2) (fr_t (fr_I e_S3) (fr_t (fr_I e_S4) (fr_t (fr_I e_S5) (fr_I e_S6)))))
  have nc : c ≠ c + 1 := by omega
  have e6 := fr_e F6 (show zK S (c + 1) < 18 by rw [k6]; decide) (fun e => nc e.symm)
  obtain ⟨w, hw⟩ : ∃ w, RWL S6 (c + 1) w := by
    obtain ⟨w, hw⟩ := rwl_ex hT k6
    exact ⟨w, eqc_rl e6 k6 hw⟩
  obtain ⟨-, hf⟩ := m_chkE hf
  replace hf := m_calY hf p66
  obtain ⟨-, hf⟩ := m_chkE hf
  obtain ⟨⟨r8, S8c⟩, h_r8, hf⟩ := m_calE hf
  dsimp only at hf
  obtain ⟨a1, a2, a3⟩ := p_keep hw (show (0 : Int) ≤ (0 : Int32).toInt by decide) h_r8
  rw [show (0 : Int32).toInt.toNat = 0 from rfl, List.take_zero] at a1
  have F8 := fr_r a2 k66
  have e8 := fr_e F8 (show zK S6 c < 18 by rw [e_S6, e_S5, e_S4, e_S3, e_S2, e_S1]; show zK S c < 18; rw [k4]; decide) nc
  cases hf
  try dsimp only
  refine ⟨T2, fr_t (fr_m F6 (fun a _ e => Or.inl e)) (fr_m F8 (fun a _ e => Or.inr e)), ⟨?_, ?_, ?_, ?_⟩, ⟨?_, ?_⟩, a1⟩
  · rw [e8.2.2.1, e_S6, zI_j (by decide), e_S5, zI_j (by decide), e_S4, zI_j (by decide), e_S3, zI_j (by decide), e_S2, zI_j (by decide), e_S1, zI_self]
  · rw [e8.2.2.1, e_S6, zI_j (by decide), e_S5, zI_j (by decide), e_S4, zI_j (by decide), e_S3, zI_j (by decide), e_S2, zI_self]
  · rw [e8.2.2.1, e_S6, zI_j (by decide), e_S5, zI_j (by decide), e_S4, zI_j (by decide), e_S3, zI_self]
  · rw [e8.2.2.1, e_S6, zI_j (by decide), e_S5, zI_j (by decide), e_S4, zI_self]
  · rw [e8.2.2.1, e_S6, zI_j (by decide), e_S5, zI_self]; rfl
  · rw [e8.2.2.1, e_S6, zI_self]; rfl
end GRC
end
section
section GRW
variable {S S' : ZS} {g g' p : Nat} {T : TRa} {o : Int32 × ZS} {x1 x2 x3 : Int32}
theorem tc_no (hC : CG S) (hg : g = 35 ∨ g = 99) {a : Nat} (ha : a ≤ 108) (h0 : a ≠ g) (h3 : a ≠ g + 3) (h4 : a ≠ g + 4) (h5 : a ≠ g + 5) : ¬ TCl S g a := by
  rintro (e | e | e | e | ⟨i, n, e1, e2⟩)
  · exact h0 e
  · exact h3 e
  · exact h4 e
  · exact h5 e
  · have := ((gm_of hC hg).1 i n e1).1
    omega
/-- the last steps: the node begins, and is linked -/
theorem gq_102 {SX : ZS} {c : Nat} (hC : CG S) (hg : GG g g') (h : TRc S g T) (hn : tn T < 300) (hX : GXn S SX g c (tn T)) (h1 : x1.toInt = (p : Int)) (hp : p ≤ tn T) (hx3 : (tL T p = [] → x3.toInt = -1) ∧ (∀ hl : tL T p ≠ [], x3.toInt = (((tL T p).getLast hl : Nat) : Int))) (hf : d_X1_grow_102 g x1 x2 x3 SX = some o) : ∃ S2 y a j, f_X4_become c x1 x2 SX = some (y, S2) ∧ o.1 = zI SX 3 g ∧ o.2 = zsI S2 j a (zI SX 3 g) ∧ ((tL T p = [] ∧ j = 2 ∧ a = nk S (g + 3) (g + 5) p) ∨ ∃ hl : tL T p ≠ [], j = 3 ∧ a = nk S (g + 3) (g + 5) ((tL T p).getLast hl)) := by
  obtain ⟨⟨kg, p0, p1, p2, p4, p7⟩, ⟨k1, k2', k3, k4, k5, k6, k7⟩, -⟩ := fx_g hC.2.2.1 (gg_g hg)
  obtain ⟨⟨b1, b2⟩, i3, iO, FX, old, ⟨c1, c2, c3, c4⟩, TX⟩ := hX
  have kgX : zK SX g = 1 := (fr_k FX (by rw [kg]; decide)).trans kg
  have q := (FX g (by rw [kg]; decide)).1.2.2.1 (by rw [kg]; rfl)
  have p1X : zP SX 1 g = some (g + 3) := (q 1).trans p1
  have p2X : zP SX 2 g = some (g + 5) := (q 2).trans p2
  have cnX : cn SX g = tn T + 1 := by unfold cn; rw [i3]; rfl
  have nkX : ∀ j, j ≤ tn T → nk SX (g + 3) (g + 5) j = nk S (g + 3) (g + 5) j := fun j hj => by unfold nk; rw [b2 j (by omega)]
  have nkc : nk SX (g + 3) (g + 5) (tn T + 1) = c := by unfold nk; rw [if_neg (by omega), b1]; rfl
  have mem : ∀ hl : tL T p ≠ [], 1 ≤ (tL T p).getLast hl ∧ (tL T p).getLast hl ≤ tn T := fun hl => by
    have := ((h.2.2.1 p hp).2.2 _).1 (List.getLast_mem hl)
    exact ⟨this.1, this.2.1⟩
  unfold d_X1_grow_102 at hf
  obtain ⟨-, hf⟩ := m_chkE hf
  obtain ⟨-, hf⟩ := m_chkE hf
  obtain ⟨r1, h_r1, hf⟩ := m_calR hf (fun _ h => ro_X1_at h)
  dsimp only at hf
  have q1 : r1 = c := by
    have := (ok_of (t_f_X1_at (x1 := zI SX 3 g) TX kgX) h_r1).2.2
    rw [nd_nk TX kgX p1X p2X (by omega) (by omega), i3] at this
    rw [show ((tn T + 1 : Nat) : Int).toNat = tn T + 1 from rfl, nkc] at this
    exact this
  rw [q1] at hf
  obtain ⟨-, hf⟩ := m_chkE hf
  obtain ⟨-, hf⟩ := m_chkE hf
  obtain ⟨⟨r2, S2c⟩, h_r2, hf⟩ := m_calE hf
  dsimp only at hf
  obtain ⟨T2, F2, -⟩ := p_become TX c2 c3 c4 h_r2
  dsimp only at T2 F2
  have gc : g ≠ c ∧ g ≠ c + 1 := by rcases gg_g hg with e | e <;> omega
  have eg := fr_e F2 (show zK SX g < 18 by rw [kgX]; decide) (by omega)
  have bc : g + 5 ≠ c ∧ g + 5 ≠ c + 1 := by rcases gg_g hg with e | e <;> omega
  have k5X : zK SX (g + 5) = 16 := (fr_k FX (by rw [k5]; decide)).trans k5
  have eb := fr_e F2 (show zK SX (g + 5) < 18 by rw [k5X]; decide) (by omega)
  have kg2 : zK S2c g = 1 := eg.1.trans kgX
  have p12 : zP S2c 1 g = some (g + 3) := (eg.2.2.2.1 1).trans p1X
  have p22 : zP S2c 2 g = some (g + 5) := (eg.2.2.2.1 2).trans p2X
  have i32 : zI S2c 3 g = zI SX 3 g := eg.2.2.1 3
  have cn2 : cn S2c g = tn T + 1 := by unfold cn; rw [i32, i3]; rfl
  have nk2 : ∀ j, j ≤ tn T → nk S2c (g + 3) (g + 5) j = nk S (g + 3) (g + 5) j := fun j hj => by
    rw [← nkX j hj]
    unfold nk
    rw [eb.2.2.2.2.1]
  have atj : ∀ (x : Int32) (m c2 : Nat) (S9 : ZS), x.toInt = (m : Int) → m ≤ tn T → f_X1_at g x S2c = some (c2, S9) → c2 = nk S (g + 3) (g + 5) m := fun x m c2 S9 hx hm hat => by
    have := (ok_of (t_f_X1_at (x1 := x) T2 kg2) hat).2.2
    rw [nd_nk T2 kg2 p12 p22 (by omega) (by omega), hx] at this
    rw [show ((m : Nat) : Int).toNat = m from rfl, nk2 m hm] at this
    exact this
  have z1 : (-1 : Int32).toInt = -1 := rfl
  obtain ⟨-, hf⟩ := m_chkE hf
  rcases m_ifE hf with ⟨c1, hf⟩ | ⟨c1, hf⟩
  · skip
    replace c1 := ti_eqP (a := x3) (b := (-1 : Int32)) c1 rfl (show (-1 : Int32).toInt = -1 from rfl)
    obtain ⟨-, hf⟩ := m_chkE hf
    obtain ⟨r5, h_r5, hf⟩ := m_calR hf (fun _ h => ro_X1_at h)
    dsimp only at hf
    have q5 := atj x1 p _ _ h1 hp h_r5
    have hl : tL T p = [] := Classical.byContradiction (fun e => by
      have := hx3.2 e
      have := mem e
      omega)
    obtain ⟨-, hf⟩ := m_chkE hf
    obtain ⟨-, hf⟩ := m_chkE hf
    obtain ⟨-, hf⟩ := m_chkE hf
    obtain ⟨S6, e_S6, hf⟩ := m_bndE hf
    have i36 : zI S6 3 g = zI SX 3 g := by rw [e_S6, zI_j (by decide)]; exact i32
    unfold d_X1_grow_147 at hf
    obtain ⟨-, hf⟩ := m_chkE hf
    cases hf
    exact ⟨S2c, r2, nk S (g + 3) (g + 5) p, 2, h_r2, i36, by rw [e_S6, q5, i32], Or.inl ⟨hl, rfl, rfl⟩⟩
  · skip
    replace c1 := ti_eqN (a := x3) (b := (-1 : Int32)) c1 rfl (show (-1 : Int32).toInt = -1 from rfl)
    obtain ⟨-, hf⟩ := m_chkE hf
    obtain ⟨r3, h_r3, hf⟩ := m_calR hf (fun _ h => ro_X1_at h)
    dsimp only at hf
    have hl : tL T p ≠ [] := fun e => by have := hx3.1 e; omega
    have q3 := atj x3 _ _ _ (hx3.2 hl) (mem hl).2 h_r3
    obtain ⟨-, hf⟩ := m_chkE hf
    obtain ⟨-, hf⟩ := m_chkE hf
    obtain ⟨-, hf⟩ := m_chkE hf
    obtain ⟨S4, e_S4, hf⟩ := m_bndE hf
    have i34 : zI S4 3 g = zI SX 3 g := by
      rw [e_S4]
      have : g ≠ r3 := fun e => by
        have k4' := (nk_nd hC (gg_g hg) ((tL T p).getLast hl)).1
        rw [← q3, ← e, kg] at k4'
        omega
      rw [zI_b this]; exact i32
    unfold d_X1_grow_147 at hf
    obtain ⟨-, hf⟩ := m_chkE hf
    cases hf
    exact ⟨S2c, r2, nk S (g + 3) (g + 5) ((tL T p).getLast hl), 3, h_r2, i34, by rw [e_S4, q3, i32], Or.inr ⟨hl, rfl, rfl⟩⟩
/-- the class's tree with a node more -/
theorem p_grow (hC : CG S) (hg : GG g g') (hw : WT T) (h : TRc S g T) (h1 : x1.toInt = (p : Int)) (hp : p ≤ tn T) (hf : d_X1_grow g x1 x2 S = some o) : (o.1.toInt = -1 ∧ o.2 = S ∧ 300 ≤ tn T) ∨ (tn T < 300 ∧ o.1.toInt = ((tn T + 1 : Nat) : Int) ∧ CG o.2 ∧ TRc o.2 g (grT T p x2.toInt) ∧ FR (TCl S g) S o.2 ∧ ∀ j, j ≠ 3 → zI o.2 j g = zI S j g) := by
  have hgr := gg_g hg
  obtain ⟨⟨kg, p0, p1, p2, p4, p7⟩, ⟨k1, k2', k3, k4, k5, k6, k7⟩, -⟩ := fx_g hC.2.2.1 hgr
  have hc := cn_le hC.1 kg
  rw [h.1] at hc
  have tot := ok_of (t_d_X1_grow (SZ := S) (x1 := x1) (x2 := x2) hC.1 (rp_0 S) kg hC.2.1 (by rcases hgr with e | e <;> rw [e] <;> decide) (by rw [h.1]; omega)) hf
  have T' : ZT o.2 := tot.1
  have Z' : TZ o.2 := tot.2.1.2.1 hC.2.1
  have hf : d_X1_grow_0 g x1 x2 S = some o := hf
  have ht := h.2.2.1 p hp
  have hl := chn_len h.2.2.1 hp
  have z0 : (0 : Int32).toInt = 0 := rfl
  have main : ∀ y : Int32, tn T < 300 → (tL T p = [] → y.toInt = -1) → (∀ hl : tL T p ≠ [], y.toInt = (((tL T p).getLast hl : Nat) : Int)) → d_X1_grow_64 g x1 x2 y S = some o → o.1.toInt = ((tn T + 1 : Nat) : Int) ∧ CG o.2 ∧ TRc o.2 g (grT T p x2.toInt) ∧ FR (TCl S g) S o.2 ∧ ∀ j, j ≠ 3 → zI o.2 j g = zI S j g := by
    intro y hlt y1 y2 hf
    obtain ⟨SX, c, hX, hf⟩ := gq_64 hC hgr h hlt hf
    obtain ⟨S2, yy, a, j, hb, ho1, ho2, hlk⟩ := gq_102 hC hg h hlt hX h1 hp ⟨y1, y2⟩ hf
    obtain ⟨⟨b1, b2⟩, i3, iO, FX, old, ⟨c1, c2, c3, c4⟩, TX⟩ := hX
    obtain ⟨T2, F2, ⟨w0, w1, w2, w3⟩, wm, wr⟩ := p_become TX c2 c3 c4 hb
    dsimp only at T2 F2 w0 w1 w2 w3 wm wr
    have FL : FR (fun z => z = a) S2 o.2 := fr_I ho2
    have hm : ∀ hl : tL T p ≠ [], 1 ≤ (tL T p).getLast hl ∧ (tL T p).getLast hl ≤ tn T := fun hl => by
      have := (ht.2.2 _).1 (List.getLast_mem hl)
      exact ⟨this.1, this.2.1⟩
    -- the linked node
    obtain ⟨m, hmn, ha⟩ : ∃ m, m ≤ tn T ∧ a = nk S (g + 3) (g + 5) m := by
      rcases hlk with ⟨-, -, e⟩ | ⟨hl, -, e⟩
      · exact ⟨p, hp, e⟩
      · exact ⟨_, (hm hl).2, e⟩
    have nc : ∀ i, i ≤ tn T → nk S (g + 3) (g + 5) i ≠ c := fun i hi e => by
      rcases old with e2 | e2
      · rcases nk_cell (r := g + 3) h.2.1 hi with ⟨e3, e4⟩ | ⟨e3, e4⟩
        · rw [e4] at e; rcases hgr with g1 | g1 <;> omega
        · rw [e] at e4
          have := ((txs_g hC hg).2.2.2.2.2.1 _ c e2).2.2.2 i e4
          omega
      · have := (nk_nd hC hgr i).1
        rw [e] at this
        omega
    have kX : ∀ i, zK SX (nk S (g + 3) (g + 5) i) = 4 ∧ zK SX (nk S (g + 3) (g + 5) i + 1) = 6 := fun i => by
      obtain ⟨d1, -, d3, -⟩ := nk_nd hC hgr i
      exact ⟨(fr_k FX (by rw [d1]; decide)).trans d1, (fr_k FX (by rw [d3]; decide)).trans d3⟩
    have nc1 : ∀ i, nk S (g + 3) (g + 5) i ≠ c + 1 := fun i e => by
      have := (kX i).1
      rw [e, c4] at this
      omega
    have rc1 : ∀ i, nk S (g + 3) (g + 5) i + 1 ≠ c := fun i e => by
      have := (kX i).2
      rw [e, c2] at this
      omega
    -- cells of old nodes and rows up to S2
    have eX : ∀ z, zK S z < 18 → z ≠ g → z ≠ g + 5 → EQc S SX z := fun z hz z1 z2 => fr_e FX hz (by omega)
    have e2 : ∀ z, zK S z < 18 → z ≠ g → z ≠ g + 5 → z ≠ c → z ≠ c + 1 → EQc S S2 z := fun z hz z1 z2 z3 z4 => eqc_t (eX z hz z1 z2) (fr_e F2 (by rw [(eX z hz z1 z2).1]; exact hz) (by omega))
    have knd : ∀ i, zK S (nk S (g + 3) (g + 5) i) = 4 ∧ zK S (nk S (g + 3) (g + 5) i + 1) = 6 := fun i => ⟨(nk_nd hC hgr i).1, (nk_nd hC hgr i).2.2.1⟩
    have ng : ∀ i, nk S (g + 3) (g + 5) i ≠ g ∧ nk S (g + 3) (g + 5) i ≠ g + 5 ∧ nk S (g + 3) (g + 5) i + 1 ≠ g ∧ nk S (g + 3) (g + 5) i + 1 ≠ g + 5 := fun i => by
      obtain ⟨d1, d2⟩ := knd i
      exact ⟨fun e => by rw [e, kg] at d1; omega, fun e => by rw [e, k5] at d1; omega, fun e => by rw [e, kg] at d2; omega, fun e => by rw [e, k5] at d2; omega⟩
    have en : ∀ i, i ≤ tn T → EQc S S2 (nk S (g + 3) (g + 5) i) := fun i hi => e2 _ (by rw [(knd i).1]; decide) (ng i).1 (ng i).2.1 (nc i hi) (nc1 i)
    have er : ∀ i, i ≤ tn T → EQc S S2 (nk S (g + 3) (g + 5) i + 1) := fun i hi => e2 _ (by rw [(knd i).2]; decide) (ng i).2.2.1 (ng i).2.2.2 (rc1 i) (fun e => nc i hi (by omega))
    -- arrays of the game
    have bc : g + 5 ≠ c ∧ g + 5 ≠ c + 1 := by rcases hgr with e | e <;> omega
    have k5X : zK SX (g + 5) = 16 := (fr_k FX (by rw [k5]; decide)).trans k5
    have eb2 : zB S2 (g + 5) = zB SX (g + 5) := (fr_e F2 (by rw [k5X]; decide) (by omega)).2.2.2.2.1
    have eb' : zB o.2 (g + 5) = zB SX (g + 5) := by rw [ho2]; exact eb2
    have nk' : ∀ i, i ≤ tn T → nk o.2 (g + 3) (g + 5) i = nk S (g + 3) (g + 5) i := fun i hi => by unfold nk; rw [eb', b2 i (by omega)]
    have nkc : nk o.2 (g + 3) (g + 5) (tn T + 1) = c := by unfold nk; rw [if_neg (by omega), eb', b1]; rfl
    have inj := fun i k hi hk e => nk_ij (i := i) (j := k) hC hg h hi hk e
    have gc : g ≠ c ∧ g ≠ c + 1 := by rcases hgr with e | e <;> omega
    have kgX : zK SX g = 1 := (fr_k FX (by rw [kg]; decide)).trans kg
    have eg2 : ∀ i, zI S2 i g = zI SX i g := fun i => (fr_e F2 (show zK SX g < 18 by rw [kgX]; decide) (by omega)).2.2.1 i
    have ag : g ≠ a := fun e => by rw [ha] at e; exact (ng m).1 e.symm
    have eg' : ∀ i, zI o.2 i g = zI SX i g := fun i => by rw [ho2, zI_b ag]; exact eg2 i
    have cn' : cn o.2 g = tn T + 1 := by unfold cn; rw [eg', i3]; rfl
    have vX : (zI SX 3 g).toInt = ((tn T + 1 : Nat) : Int) := i3
    have z1 : (-1 : Int32).toInt = -1 := rfl
    have ca : c ≠ a := fun e => nc m hmn (by rw [← ha]; exact e.symm)
    -- ints of nodes in the end
    have ij : ∀ i k, i ≤ tn T → (k ≠ j ∨ nk S (g + 3) (g + 5) i ≠ a) → zI o.2 k (nk S (g + 3) (g + 5) i) = zI S k (nk S (g + 3) (g + 5) i) := fun i k hi hk => by
      rw [ho2, ← (en i hi).2.2.1 k]
      rcases hk with hk | hk
      · exact zI_j hk
      · exact zI_b hk
    have ic : ∀ k, zI o.2 k c = zI S2 k c := fun k => by rw [ho2]; exact zI_b ca
    have ia : zI o.2 j a = zI SX 3 g := by rw [ho2]; exact zI_self _ _ _ _
    have jj : j = 2 ∨ j = 3 := by rcases hlk with ⟨-, e, -⟩ | ⟨-, e, -⟩ <;> omega
    have P0 : ∀ i, i ≤ tn T → nF o.2 0 (g + 3) (g + 5) i = nF S 0 (g + 3) (g + 5) i := fun i hi => by unfold nF; rw [nk' i hi, ij i 0 hi (Or.inl (by omega))]
    have P1 : nF o.2 0 (g + 3) (g + 5) (tn T + 1) = (p : Int) := by unfold nF; rw [nkc, ic, w0]; exact h1
    have hbt : TTb (tn T) (nF S 0 (g + 3) (g + 5)) (fun _ => 0) := fun k q1 q2 => by
      rw [(h.2.2.2 k q2).1.1]
      exact ⟨(hw.2.1 k q1 q2).1, Int.le_refl _⟩
    have hTTl : TTl (tn T + 1) (nF o.2 0 (g + 3) (g + 5)) (nF o.2 2 (g + 3) (g + 5)) (nF o.2 3 (g + 3) (g + 5)) (fun q => if q = p then tL T p ++ [tn T + 1] else if q = tn T + 1 then [] else tL T q) := by
      rcases hlk with ⟨l0, ej, ea⟩ | ⟨l0, ej, ea⟩ <;> subst ej
      · refine TTl_app hbt h.2.2.1 hp P0 P1 (fun i hi hne => ?_) (fun e => absurd l0 e) (fun _ => ?_) ?_ (fun i hi _ => ?_) (fun e => absurd l0 e) ?_
        · unfold nF
          rw [nk' i hi, ij i 2 hi (Or.inr (fun e => hne (inj i p hi hp (e.trans ea))))]
        · unfold nF
          rw [nk' p hp, ← ea, ia]; exact vX
        · unfold nF
          rw [nkc, ic, w2]; rfl
        · unfold nF
          rw [nk' i hi, ij i 3 hi (Or.inl (by decide))]
        · unfold nF
          rw [nkc, ic, w3]; rfl
      · have hml := hm l0
        refine TTl_app hbt h.2.2.1 hp P0 P1 (fun i hi hne => ?_) (fun _ => ?_) (fun e => absurd e l0) ?_ (fun i hi hne => ?_) (fun _ => ?_) ?_
        · unfold nF
          rw [nk' i hi, ij i 2 hi (Or.inl (by decide))]
        · unfold nF
          rw [nk' p hp, ij p 2 hp (Or.inl (by decide))]
        · unfold nF
          rw [nkc, ic, w2]; rfl
        · unfold nF
          rw [nk' i hi, ij i 3 hi (Or.inr (fun e => hne l0 (inj i _ hi hml.2 (e.trans ea))))]
        · unfold nF
          rw [nk' _ hml.2, ← ea, ia]; exact vX
        · unfold nF
          rw [nkc, ic, w3]; rfl
    -- frames
    have V : ∀ z, (TCl S g z ∨ 18 ≤ zK S z) → zK S z < 18 → TCl S g z := fun z hz hl => hz.elim id (fun e => by omega)
    have cV : (TCl S g c ∨ 18 ≤ zK S c) ∧ (TCl S g (c + 1) ∨ 18 ≤ zK S (c + 1)) := by
      rcases old with e | e
      · exact ⟨Or.inl (Or.inr (Or.inr (Or.inr (Or.inr ⟨_, c, e, Or.inl rfl⟩)))), Or.inl (Or.inr (Or.inr (Or.inr (Or.inr ⟨_, c, e, Or.inr rfl⟩))))⟩
      · exact ⟨Or.inr e.1, Or.inr e.2⟩
    have FR' : FR (TCl S g) S o.2 := by
      have f1 : FR (fun z => TCl S g z ∨ 18 ≤ zK S z) S SX := fr_m FX (fun z _ e => Or.inl (e.elim (fun e => Or.inl e) (fun e => Or.inr (Or.inr (Or.inr (Or.inl e))))))
      have f2 : FR (fun z => TCl S g z ∨ 18 ≤ zK S z) SX S2 := fr_m F2 (fun z _ e => e.elim (fun e => by rw [e]; exact cV.1) (fun e => by rw [e]; exact cV.2))
      have f3 : FR (fun z => TCl S g z ∨ 18 ≤ zK S z) S2 o.2 := fr_m FL (fun z _ e => Or.inl (by rw [e, ha]; exact (tc_nk m).1))
      exact fr_m (fr_t f1 (fr_t f2 f3)) (fun z hz e => V z e hz)
    have hx := hC.2.2.1
    have hxy : (g = 35 ∧ g' = 99) ∨ (g = 99 ∧ g' = 35) := hg
    have eB : ∀ z, 1 ≤ z → z ≤ 108 → z ≠ g → z ≠ g + 3 → z ≠ g + 4 → z ≠ g + 5 → zB o.2 z = zB S z := fun z z1 z2 z3 z4 z5 z6 => (fr_e FR' (fx_l hx z1 z2) (tc_no hC hgr z2 z3 z4 z5 z6)).2.2.2.2.1
    have kc' : zK o.2 c = 4 ∧ zP o.2 6 c = some (c + 1) ∧ zK o.2 (c + 1) = 6 := by
      have q2 := (F2 c (by rw [c2]; decide)).1
      have q3 := fr_k F2 (a := c + 1) (by rw [c4]; decide)
      refine ⟨?_, ?_, ?_⟩
      · rw [ho2]; exact q2.1.trans c2
      · rw [ho2]; exact (q2.2.2.1 (by rw [c2]; rfl) 6).trans c3
      · rw [ho2]; exact q3.trans c4
    have G := gm_of hC hgr
    have Gg : GM o.2 g := by
      refine ⟨fun i z hz => ?_, fun i z hz => ?_⟩
      · rw [eb'] at hz
        by_cases e : i = tn T + 1
        · rw [e, b1] at hz
          cases hz
          exact ⟨c1, kc'⟩
        · rw [b2 i e] at hz
          obtain ⟨d1, d2, d3, d4⟩ := G.1 i z hz
          exact ⟨d1, (fr_k FR' (by rw [d2]; decide)).trans d2, ((FR' z (by rw [d2]; decide)).1.2.2.1 (by rw [d2]; rfl) 6).trans d3, (fr_k FR' (by rw [d4]; decide)).trans d4⟩
      · rw [eB (g + 6) (by omega) (by omega) (by omega) (by omega) (by omega) (by omega)] at hz
        obtain ⟨d1, d2, d3, d4, d5, d6⟩ := G.2 i z hz
        have q := (FR' z (by rw [d2]; decide)).1.2.2.1 (by rw [d2]; rfl)
        exact ⟨d1, (fr_k FR' (by rw [d2]; decide)).trans d2, (q 0).trans d3, (q 1).trans d4, (fr_k FR' (by rw [d5]; decide)).trans d5, (fr_k FR' (by rw [d6]; decide)).trans d6⟩
    have Gg' : GM o.2 g' := gm_fr hx (gg_g (gg_s hg)) (gm_of hC (gg_g (gg_s hg))) FR' (eB (g' + 5) (by omega) (by omega) (by omega) (by omega) (by omega) (by omega)) (eB (g' + 6) (by omega) (by omega) (by omega) (by omega) (by omega) (by omega))
    have TD : TDX o.2 := fun q q' hq => by
      have hq2 : (q = 35 ∧ q' = 99) ∨ (q = 99 ∧ q' = 35) := hq
      rw [eB (q + 6) (by omega) (by omega) (by omega) (by omega) (by omega) (by omega), eB (q' + 6) (by omega) (by omega) (by omega) (by omega) (by omega) (by omega)]
      exact hC.2.2.2.2.2 q q' hq
    have CG' : CG o.2 := by
      refine ⟨T', Z', fix_fr hx FR', ?_, ?_, TD⟩
      · rcases hxy with ⟨e, e2⟩ | ⟨e, e2⟩
        · rw [e] at Gg; exact Gg
        · rw [e2] at Gg'; exact Gg'
      · rcases hxy with ⟨e, e2⟩ | ⟨e, e2⟩
        · rw [e2] at Gg'; exact Gg'
        · rw [e] at Gg; exact Gg
    refine ⟨by rw [ho1]; exact i3, CG', ⟨cn', fun k q1 q2 => ?_, hTTl, fun k hk => ?_⟩, FR', fun k hk => by rw [eg']; exact iO k hk⟩
    · have q3 : k ≤ tn T + 1 := q2
      rw [eb']
      by_cases e : k = tn T + 1
      · rw [e, b1]; exact fun e => by cases e
      · rw [b2 k e]; exact h.2.1 k q1 (by omega)
    · have hk' : k ≤ tn T + 1 := hk
      show (nF o.2 0 (g + 3) (g + 5) k = (if k = tn T + 1 then (p : Int) else tP T k) ∧ nF o.2 1 (g + 3) (g + 5) k = (if k = tn T + 1 then x2.toInt else tM T k)) ∧ NMk o.2 (nk o.2 (g + 3) (g + 5) k) (if k = tn T + 1 then [] else tK T k) ∧ RWL o.2 (nk o.2 (g + 3) (g + 5) k + 1) (if k = tn T + 1 then [] else tR T k)
      by_cases e : k = tn T + 1
      · rw [if_pos e, if_pos e, if_pos e, if_pos e, e, P1, nkc]
        refine ⟨⟨rfl, ?_⟩, ⟨?_, ?_⟩, ?_⟩
        · unfold nF
          rw [nkc, ic, w1]
        · rw [ic]; exact wm.1
        · rw [ic]; exact wm.2
        · have k62 : zK S2 (c + 1) = 6 := (fr_k F2 (by rw [c4]; decide)).trans c4
          exact eqc_rl (fr_e FL (by rw [k62]; decide) (fun e => by rw [ha] at e; exact nc1 m e.symm)) k62 wr
      · rw [if_neg e, if_neg e, if_neg e, if_neg e, P0 k (by omega), nk' k (by omega)]
        have hk2 : k ≤ tn T := by omega
        obtain ⟨⟨a1, a2⟩, a3, a4⟩ := h.2.2.2 k hk2
        refine ⟨⟨a1, ?_⟩, ⟨?_, ?_⟩, ?_⟩
        · unfold nF
          rw [nk' k hk2, ij k 1 hk2 (Or.inl (by omega))]; exact a2
        · rw [ij k 4 hk2 (Or.inl (by omega))]; exact a3.1
        · rw [ij k 5 hk2 (Or.inl (by omega))]; exact a3.2
        · have k62 := (er k hk2).1.trans (knd k).2
          exact eqc_rl (fr_e FL (by rw [k62]; decide) (fun e => by rw [ha] at e; exact nk_r1 hC hgr m k e.symm)) k62 (eqc_rl (er k hk2) (knd k).2 a4)
  unfold d_X1_grow_0 at hf
  obtain ⟨-, hf⟩ := m_chkE hf
  rcases m_ifE hf with ⟨c1, hf⟩ | ⟨c1, hf⟩
  · skip
    replace c1 := ti_ltP (a := (zI S 3 g)) (b := (300 : Int32)) c1 rfl (show (300 : Int32).toInt = 300 from rfl)
    obtain ⟨-, hf⟩ := m_chkE hf
    obtain ⟨r1, h_r1, hf⟩ := m_calR hf (fun _ h => ro_X1_at h)
    dsimp only at hf
    obtain ⟨-, q1⟩ := p_at hC hgr h (by omega) (by omega) h_r1
    rw [show x1.toInt.toNat = p by omega] at q1
    obtain ⟨-, hf⟩ := m_chkE hf
    obtain ⟨-, hf⟩ := m_chkE hf
    obtain ⟨y, y1, y2, y3⟩ := gq_24 hC hgr h mFuel (tL T p) (zI S 2 r1) 0 (by rw [q1]; exact ht.1) (fun k hk => by
      have := (ht.2.2 k).1 hk
      exact ⟨this.1, this.2.1⟩) (by decide) (by omega) hf
    have lt : tn T < 300 := by omega
    exact Or.inr ⟨lt, main y lt y1 y2 y3⟩
  · skip
    replace c1 := ti_ltN (a := (zI S 3 g)) (b := (300 : Int32)) c1 rfl (show (300 : Int32).toInt = 300 from rfl)
    cases hf
    try dsimp only
    exact Or.inl ⟨rfl, rfl, by omega⟩
end GRW
end
section
/-- a position: men, side, rights, passed square, kings, number -/
noncomputable abbrev PO : Type := (Int → Int) × Int × Int × Int × Int × Int × Int
noncomputable def om (P : PO) : Int → Int := P.1
noncomputable def osd (P : PO) : Int := P.2.1
noncomputable def ort (P : PO) : Int := P.2.2.1
noncomputable def ops (P : PO) : Int := P.2.2.2.1
noncomputable def okw (P : PO) : Int := P.2.2.2.2.1
noncomputable def okb (P : PO) : Int := P.2.2.2.2.2.1
noncomputable def onb (P : PO) : Int := P.2.2.2.2.2.2
noncomputable def oko (P : PO) : Int := if osd P = 0 then okw P else okb P
/-- the position behind a move -/
noncomputable def afO (P : PO) (x : Int) : PO := (afM (om P) (osd P) (ops P) x, 1 - osd P, afR (ort P) x, afP (om P) (osd P) (ops P) x, afK (om P) (osd P) (ops P) x 0 (okw P), afK (om P) (osd P) (ops P) x 1 (okb P), onb P + osd P)
noncomputable def PGd (P : PO) : Prop := POS (om P) (osd P) (ort P) (ops P) (okw P) (okb P)
noncomputable def LGo (P : PO) (x : Int) : Prop := LGx (om P) (osd P) (ort P) (ops P) (oko P) x
theorem pgd_af {P : PO} {x : Int} (h : PGd P) (hL : LGo P x) : PGd (afO P x) := pos_af h rfl hL
/-- a board of the class holds a position -/
noncomputable def BO (S : ZS) (b : Nat) (P : PO) : Prop := (zK S b = 0 ∧ zP S 0 b = some (b + 1) ∧ zK S (b + 1) = 14) ∧ mCb S b = om P ∧ (zI S 3 b).toInt = osd P ∧ (zI S 4 b).toInt = ort P ∧ (zI S 5 b).toInt = ops P ∧ (zI S 1 b).toInt = okw P ∧ (zI S 2 b).toInt = okb P ∧ (zI S 6 b).toInt = onb P
section BOS
variable {S S' : ZS} {b c : Nat} {P : PO} {o : Int32 × ZS} {x : Int32} {W : Nat → Prop}
theorem bo_e (h : BO S b P) (e : EQc S S' b) (e1 : EQc S S' (b + 1)) : BO S' b P := by
  obtain ⟨⟨k0, p0, k1⟩, hm, h3, h4, h5, h1, h2, h6⟩ := h
  refine ⟨⟨e.1.trans k0, (e.2.2.2.1 0).trans p0, e1.1.trans k1⟩, by rw [eqc_mB e e1 p0 k1]; exact hm, ?_, ?_, ?_, ?_, ?_, ?_⟩ <;> rw [e.2.2.1] <;> assumption
theorem bo_fr (h : BO S b P) (hF : FR W S S') (h1 : ¬ W b) (h2 : ¬ W (b + 1)) : BO S' b P := bo_e h (fr_e hF (by rw [h.1.1]; decide) h1) (fr_e hF (by rw [h.1.2.2]; decide) h2)
theorem bo_play (hT : ZT S) (h : BO S b P) (hG : PGd P) (hx : LGo P x.toInt) (hn : 0 ≤ onb P ∧ onb P ≤ 99999) (hf : f_X0_play b x S = some o) : ZT o.2 ∧ FR (fun a => a = b ∨ a = b + 1) S o.2 ∧ BO o.2 b (afO P x.toInt) := by
  obtain ⟨⟨k0, p0, k1⟩, hm, h3, h4, h5, h1, h2, h6⟩ := h
  have hs := hG.1
  obtain ⟨a1, a2, -, a4, a5, a6, a7, a8, a9, a10⟩ := p_aft hT k0 p0 (by unfold BN; omega) (by omega) hm hG.2.1 h3 h4 h5 h1 h2 hx.1 hf
  have F := fr_b hT k1 a2
  exact ⟨a1, F, ⟨(fr_k F (by rw [k0]; decide)).trans k0, ((F b (by rw [k0]; decide)).1.2.2.1 (by rw [k0]; rfl) 0).trans p0, (fr_k F (by rw [k1]; decide)).trans k1⟩, a4, a5, a6, a7, a8, a9, by rw [a10, h6]; rfl⟩
theorem bo_copy (hT : ZT S) (k0 : zK S b = 0) (p0 : zP S 0 b = some (b + 1)) (k1 : zK S (b + 1) = 14) (h : BO S c P) (hf : f_X0_copyFrom b c S = some o) : ZT o.2 ∧ FR (fun a => a = b ∨ a = b + 1) S o.2 ∧ BO o.2 b P := by
  obtain ⟨⟨c0, q0, c1⟩, hm, h3, h4, h5, h1, h2, h6⟩ := h
  have T2 : ZT o.2 := (ok_of (t_f_X0_copyFrom (SZ := S) hT (a7_0 S) k0 c0) hf).1
  obtain ⟨a1, a2, a3⟩ := p_copy p0 q0 hf
  have F := fr_b hT k1 a1
  refine ⟨T2, F, ⟨(fr_k F (by rw [k0]; decide)).trans k0, ((F b (by rw [k0]; decide)).1.2.2.1 (by rw [k0]; rfl) 0).trans p0, (fr_k F (by rw [k1]; decide)).trans k1⟩, a2.trans hm, ?_, ?_, ?_, ?_, ?_, ?_⟩
  · rw [a3 3 (by decide) (by decide)]; exact h3
  · rw [a3 4 (by decide) (by decide)]; exact h4
  · rw [a3 5 (by decide) (by decide)]; exact h5
  · rw [a3 1 (by decide) (by decide)]; exact h1
  · rw [a3 2 (by decide) (by decide)]; exact h2
  · rw [a3 6 (by decide) (by decide)]; exact h6
end BOS
/-- the reference holds a position -/
noncomputable def RPp (I : Nat → Int32) (A : Nat → Nat → Int32) (P : PO) : Prop := (TJ I ∧ TK A) ∧ mR A = om P ∧ (I 25).toInt = osd P ∧ (I 26).toInt = ort P ∧ (I 27).toInt = ops P ∧ (I 29).toInt = onb P
theorem rp_make {I : Nat → Int32} {A : Nat → Nat → Int32} {P : PO} {x1 : Int32} {o : Int32 × MS} (h : RPp I A P) (hG : PGd P) (hL : LGo P x1.toInt) (hn : onb P ≤ 1998) (hf : f_make x1 I A = some o) : RPp o.2.1 o.2.2 (afO P x1.toInt) ∧ (∀ j, j ∉ [25, 26, 27, 28, 29] → o.2.1 j = I j) ∧ ∀ j, j ≠ 24 → o.2.2 j = A j := by
  obtain ⟨⟨hI, hA⟩, hm, h25, h26, h27, h29⟩ := h
  obtain ⟨hx, hr, hp, hsf⟩ := hL
  have hs := hG.1
  have hp0 : 0 ≤ x1.toInt / 4096 := by omega
  have e1 : mkR (om P) (osd P) (x1.toInt % 64) (x1.toInt / 64 % 64) (x1.toInt / 4096) = afM (om P) (osd P) (ops P) x1.toInt := mk_pl hs (by omega) (by omega) hp0 hG.2.2.2.2.1 hr
  obtain ⟨I2t, A2t, m2, r26, q27, q29, q25⟩ := ok_of (x_make (nn := (I 29).toInt) (sd := osd P) (TM := afM (om P) (osd P) (ops P) x1.toInt) (TP := psF (afM (om P) (osd P) (ops P) x1.toInt) (osd P) (pwb (om P) (x1.toInt % 64)) (x1.toInt % 64) (x1.toInt / 64 % 64)) (r0 := I 26) hI hA hx (by rw [hm]; exact hG.2.1) rfl rfl (by rw [hm]) (by rw [hm, e1]) ⟨rfl, by omega, h25⟩) hf
  have eP : (o.2.1 27).toInt = afP (om P) (osd P) (ops P) x1.toInt := by
    rw [q27]
    refine ps_pl hs (by omega) (by omega) (fun h1 h2 => ?_)
    have hw1 : om P (x1.toInt % 64) % 8 = 1 := by
      unfold pwb at h1
      by_cases e : om P (x1.toInt % 64) % 8 = 1
      · exact e
      · rw [if_neg e] at h1; omega
    have hw : pwn (om P) (osd P) (ops P) (x1.toInt % 64) (x1.toInt / 64 % 64) := hr.2.2.elim (fun z => z.2) (fun z => absurd hw1 z.1)
    rcases pwn_3 hw with w | w | w
    · exfalso; rcases hs with h | h <;> rw [h] at w <;> omega
    · exact w.1
    · exfalso; rcases hs with h | h <;> rw [h] at w <;> omega
  have eR : (o.2.1 26).toInt = afR (ort P) x1.toInt := by
    rw [r26, rt_ref (by rw [h26]; exact hG.2.2.2.2.2.2.1)]
    unfold afR
    rw [i32_of h26]
  exact ⟨⟨⟨I2t, A2t⟩, m2, q25, eR, eP, by rw [q29, h29]; rfl⟩, fun j hj => (fw_make hf).1 j hj, fun j hj => (fw_make hf).2 j (by simpa using hj)⟩
/-- the way from a node back to the beginning -/
noncomputable def ancL (P : Nat → Int) : Nat → Nat → List Nat
  | 0, _ => []
  | f + 1, k => if k = 0 then [] else k :: ancL P f (P k).toNat
noncomputable def posL (st : PO) (M : Nat → Int) : List Nat → PO
  | [] => st
  | k :: l => afO (posL st M l) (M k)
/-- the position behind a node -/
noncomputable def posT (st : PO) (T : TRa) (k : Nat) : PO := posL st (tM T) (ancL (tP T) k k)
section ANC
variable {T : TRa} {st : PO}
theorem anc_f (hw : WT T) : ∀ (f k : Nat), k ≤ tn T → k ≤ f → ancL (tP T) f k = ancL (tP T) k k := by
  intro f
  induction f using Nat.strongRecOn with
  | ind f ih =>
    intro k hk hkf
    cases f with
    | zero =>
      have : k = 0 := by omega
      subst this; rfl
    | succ f =>
      cases k with
      | zero => rfl
      | succ k =>
        have hb := (hw.2.1 (k + 1) (by omega) hk).1
        show (if k + 1 = 0 then [] else (k + 1) :: ancL (tP T) f (tP T (k + 1)).toNat) = (if k + 1 = 0 then [] else (k + 1) :: ancL (tP T) k (tP T (k + 1)).toNat)
        rw [if_neg (by omega), if_neg (by omega), ih f (by omega) _ (by omega) (by omega)]
        by_cases e : k = f
        · subst e
          rw [ih k (by omega) _ (by omega) (by omega)]
        · rw [ih k (by omega) _ (by omega) (by omega)]
theorem anc_s (hw : WT T) {k : Nat} (h1 : 1 ≤ k) (hk : k ≤ tn T) : ancL (tP T) k k = k :: ancL (tP T) (tP T k).toNat (tP T k).toNat := by
  obtain ⟨f, rfl⟩ : ∃ f, k = f + 1 := ⟨k - 1, by omega⟩
  have hb := (hw.2.1 (f + 1) (by omega) hk).1
  show (if f + 1 = 0 then [] else (f + 1) :: ancL (tP T) f (tP T (f + 1)).toNat) = _
  rw [if_neg (by omega), anc_f hw f _ (by omega) (by omega)]
theorem posT_0 : posT st T 0 = st := rfl
theorem posT_s (hw : WT T) {k : Nat} (h1 : 1 ≤ k) (hk : k ≤ tn T) : posT st T k = afO (posT st T (tP T k).toNat) (tM T k) := by
  unfold posT
  rw [anc_s hw h1 hk]
  rfl
/-- each element's rest is the way back of its parent -/
noncomputable def AN (T : TRa) : List Nat → Prop
  | [] => True
  | k :: l => (1 ≤ k ∧ k ≤ tn T) ∧ l = ancL (tP T) (tP T k).toNat (tP T k).toNat ∧ AN T l
theorem an_anc (hw : WT T) : ∀ k, k ≤ tn T → AN T (ancL (tP T) k k) := by
  intro k
  induction k using Nat.strongRecOn with
  | ind k ih =>
    intro hk
    by_cases e : k = 0
    · subst e; trivial
    · rw [anc_s hw (by omega) hk]
      have hb := (hw.2.1 k (by omega) hk).1
      exact ⟨⟨by omega, hk⟩, rfl, ih _ (by omega) (by omega)⟩
theorem an_drop : ∀ (i : Nat) (l : List Nat), AN T l → AN T (l.drop i)
  | 0, _, h => h
  | _ + 1, [], _ => trivial
  | i + 1, _ :: l, h => an_drop i l h.2.2
/-- all moves of a tree are legal -/
noncomputable def LTr (st : PO) (T : TRa) : Prop := PGd st ∧ (1 ≤ onb st ∧ onb st ≤ 999) ∧ ∀ k, 1 ≤ k → k ≤ tn T → LGo (posT st T (tP T k).toNat) (tM T k)
theorem lt_pg (hw : WT T) (h : LTr st T) : ∀ k, k ≤ tn T → PGd (posT st T k) ∧ 1 ≤ onb (posT st T k) ∧ onb (posT st T k) ≤ 999 + (k : Int) := by
  intro k
  induction k using Nat.strongRecOn with
  | ind k ih =>
    intro hk
    by_cases e : k = 0
    · subst e
      rw [posT_0]
      exact ⟨h.1, h.2.1.1, by have := h.2.1.2; omega⟩
    · have hb := (hw.2.1 k (by omega) hk).1
      obtain ⟨a1, a2, a3⟩ := ih (tP T k).toNat (by omega) (by omega)
      rw [posT_s hw (by omega) hk]
      refine ⟨pgd_af a1 (h.2.2 k (by omega) hk), ?_⟩
      have hs := a1.1
      show 1 ≤ onb (posT st T (tP T k).toNat) + osd (posT st T (tP T k).toNat) ∧ onb (posT st T (tP T k).toNat) + osd (posT st T (tP T k).toNat) ≤ 999 + (k : Int)
      omega
theorem anc_c {P Q : Nat → Int} {n : Nat} (hP : ∀ k, 1 ≤ k → k ≤ n → 0 ≤ P k ∧ P k < (k : Int)) (h : ∀ k, k ≤ n → Q k = P k) : ∀ (f k : Nat), k ≤ n → ancL Q f k = ancL P f k
  | 0, _, _ => rfl
  | f + 1, k, hk => by
    show (if k = 0 then [] else k :: ancL Q f (Q k).toNat) = (if k = 0 then [] else k :: ancL P f (P k).toNat)
    by_cases e : k = 0
    · rw [if_pos e, if_pos e]
    · have := hP k (by omega) hk
      rw [if_neg e, if_neg e, h k hk, anc_c hP h f _ (by omega)]
theorem anc_m {P : Nat → Int} {n : Nat} (hP : ∀ k, 1 ≤ k → k ≤ n → 0 ≤ P k ∧ P k < (k : Int)) : ∀ (f k : Nat), k ≤ n → ∀ j ∈ ancL P f k, j ≤ n
  | 0, _, _, _, hj => by cases hj
  | f + 1, k, hk, j, hj => by
    by_cases e : k = 0
    · have : ancL P (f + 1) k = [] := if_pos e
      rw [this] at hj; cases hj
    · have e2 : ancL P (f + 1) k = k :: ancL P f (P k).toNat := if_neg e
      rw [e2] at hj
      have := hP k (by omega) hk
      rcases List.mem_cons.1 hj with hj | hj
      · omega
      · exact anc_m hP f _ (by omega) j hj
theorem posL_c {M M' : Nat → Int} : ∀ (l : List Nat), (∀ k ∈ l, M' k = M k) → posL st M' l = posL st M l
  | [], _ => rfl
  | k :: l, h => by
    show afO (posL st M' l) (M' k) = afO (posL st M l) (M k)
    rw [posL_c l (fun j hj => h j (List.mem_cons_of_mem _ hj)), h k List.mem_cons_self]
theorem posT_c {T' : TRa} (hw : WT T) (hP : ∀ k, k ≤ tn T → tP T' k = tP T k) (hM : ∀ k, k ≤ tn T → tM T' k = tM T k) {k : Nat} (hk : k ≤ tn T) : posT st T' k = posT st T k := by
  have hb := fun k h1 h2 => (hw.2.1 k h1 h2).1
  unfold posT
  rw [anc_c hb hP k k hk]
  exact posL_c _ (fun j hj => hM j (anc_m hb k k hk j hj))
theorem posT_gr {p k : Nat} {m : Int} (hw : WT T) (hk : k ≤ tn T) : posT st (grT T p m) k = posT st T k := posT_c hw (fun j hj => by show (if j = tn T + 1 then (p : Int) else tP T j) = _; rw [if_neg (by omega)]) (fun j hj => by show (if j = tn T + 1 then m else tM T j) = _; rw [if_neg (by omega)]) hk
theorem wt_gr {p : Nat} {m : Int} (hw : WT T) (hp : p ≤ tn T) (hn : tn T < 300) (hm : 0 ≤ m ∧ m ≤ 24575) : WT (grT T p m) := by
  obtain ⟨h1, h2, h3, h4, h5⟩ := hw
  refine ⟨by show tn T + 1 ≤ 300; omega, fun k k1 k2 => ?_, fun k => ?_, ?_, ?_⟩
  · have k2' : k ≤ tn T + 1 := k2
    show (0 ≤ (if k = tn T + 1 then (p : Int) else tP T k) ∧ (if k = tn T + 1 then (p : Int) else tP T k) < (k : Int)) ∧ 0 ≤ (if k = tn T + 1 then m else tM T k) ∧ (if k = tn T + 1 then m else tM T k) ≤ 24575
    by_cases e : k = tn T + 1
    · rw [if_pos e, if_pos e]; omega
    · rw [if_neg e, if_neg e]; exact h2 k k1 (by omega)
  · show (if k = tn T + 1 then [] else tR T k).length ≤ 200 ∧ (if k = tn T + 1 then [] else tK T k).length ≤ 4
    by_cases e : k = tn T + 1
    · rw [if_pos e, if_pos e]; decide
    · rw [if_neg e, if_neg e]; exact h3 k
  · show (if 0 = tn T + 1 then (p : Int) else tP T 0) = -1
    rw [if_neg (by omega)]; exact h4
  · show (if 0 = tn T + 1 then m else tM T 0) = -1
    rw [if_neg (by omega)]; exact h5
theorem wt_mk {k : Nat} {K : List Int} (hw : WT T) (hK : K.length ≤ 4) : WT (mkT T k K) := by
  obtain ⟨h1, h2, h3, h4, h5⟩ := hw
  refine ⟨h1, h2, fun j => ⟨(h3 j).1, ?_⟩, h4, h5⟩
  show (if j = k then K else tK T j).length ≤ 4
  by_cases e : j = k
  · rw [if_pos e]; exact hK
  · rw [if_neg e]; exact (h3 j).2
theorem wt_rk {k : Nat} {r : List Int} (hw : WT T) (hr : r.length ≤ 200) : WT (rkT T k r) := by
  obtain ⟨h1, h2, h3, h4, h5⟩ := hw
  refine ⟨h1, h2, fun j => ⟨?_, (h3 j).2⟩, h4, h5⟩
  show (if j = k then r else tR T j).length ≤ 200
  by_cases e : j = k
  · rw [if_pos e]; exact hr
  · rw [if_neg e]; exact (h3 j).1
theorem posT_g1 {p : Nat} {m : Int} (hw : WT T) (hp : p ≤ tn T) (hn : tn T < 300) (hm : 0 ≤ m ∧ m ≤ 24575) : posT st (grT T p m) (tn T + 1) = afO (posT st T p) m := by
  have e1 : tP (grT T p m) (tn T + 1) = (p : Int) := if_pos rfl
  have e2 : tM (grT T p m) (tn T + 1) = m := if_pos rfl
  rw [posT_s (k := tn T + 1) (wt_gr hw hp hn hm) (by omega) (Nat.le_refl (tn T + 1)), e1, e2, Int.toNat_natCast, posT_gr hw hp]
theorem lt_gr {p : Nat} {m : Int} (hw : WT T) (h : LTr st T) (hp : p ≤ tn T) (hL : LGo (posT st T p) m) : LTr st (grT T p m) := by
  refine ⟨h.1, h.2.1, fun k k1 k2 => ?_⟩
  have k2' : k ≤ tn T + 1 := k2
  by_cases e : k = tn T + 1
  · have e1 : tP (grT T p m) k = (p : Int) := if_pos e
    have e2 : tM (grT T p m) k = m := if_pos e
    rw [e1, e2, Int.toNat_natCast, posT_gr hw hp]; exact hL
  · have e1 : tP (grT T p m) k = tP T k := if_neg e
    have e2 : tM (grT T p m) k = tM T k := if_neg e
    have hb := (hw.2.1 k k1 (by omega)).1
    rw [e1, e2, posT_gr hw (by omega)]; exact h.2.2 k k1 (by omega)
end ANC
end
section
/-- the start position of the reference's game g -/
noncomputable def SPp (A : Nat → Nat → Int32) (g : Nat) (st : PO) : Prop := SPo A (g : Int) (om st) (osd st) (ort st) (ops st) (onb st) ∧ ∀ s, ¬ (0 ≤ s ∧ s < 64) → om st s = 0
/-- what place may change -/
noncomputable def PLf (I I' : Nat → Int32) (A A' : Nat → Nat → Int32) : Prop := (∀ j, j ∉ [25, 26, 27, 28, 29, 33] → I' j = I j) ∧ ∀ j, j ∉ [24, 30, 31, 32, 34] → A' j = A j
section PLC
variable {I I0 I1 I2 : Nat → Int32} {A A0 A1 A2 : Nat → Nat → Int32} {g : Nat} {T : TRa} {st : PO} {o : Int32 × MS} {x1 x2 x3 x4 : Int32}
theorem plf_0 : PLf I I A A := ⟨fun _ _ => rfl, fun _ _ => rfl⟩
theorem plf_t (h : PLf I I1 A A1) (k : PLf I1 I2 A1 A2) : PLf I I2 A A2 := ⟨fun j hj => (k.1 j hj).trans (h.1 j hj), fun j hj => (k.2 j hj).trans (h.2 j hj)⟩
/-- the reference with the moves of a position -/
noncomputable def MVs (I : Nat → Int32) (A : Nat → Nat → Int32) (P : PO) : Prop := (I 33).toInt = ((cnt (LR (om P) (osd P) (ort P) (ops P) (oko P)) 32768 : Nat) : Int) ∧ LST (fun k => (A 32 k).toInt) (LR (om P) (osd P) (ort P) (ops P) (oko P)) mvk 32768
theorem rp_find {P : PO} (h : RPp I A P) (hG : PGd P) (hn : onb P ≤ 1999) (hf : f_findMoves I A = some o) : RPp o.2.1 o.2.2 P ∧ MVs o.2.1 o.2.2 P ∧ PLf I o.2.1 A o.2.2 := by
  obtain ⟨⟨hI, hA⟩, hm, h25, h26, h27, h29⟩ := h
  have fw := fw_findMoves hf
  obtain ⟨a1, a2, a3, a4, a5, a6, -, a8, a9⟩ := p_find (ko := oko P) hG rfl hI hA hm h25 h26 h27 (by omega) hf
  have i29 : o.2.1 29 = I 29 := fw.1 29 (by decide)
  refine ⟨⟨⟨a1, a2⟩, a3, a4, a5, a6, by rw [i29]; exact h29⟩, ⟨a8, a9⟩, fun j hj => fw.1 j (fun e => hj ?_), fun j hj => fw.2 j (fun e => hj ?_)⟩
  · simp at e ⊢; omega
  · simp at e ⊢; omega
theorem pl_147 (hg : g ≤ 1) (h1 : x1.toInt = (g : Int)) (hw : WT T) (hL : LTr st T) {l : List Nat} (hl : AN T l) (hll : l.length ≤ 300) (hM : ∀ k, 1 ≤ k → k ≤ tn T → (A0 9 (301 * g + k)).toInt = tM T k) (hp : ∀ (i : Nat) (h : i < l.length), (A0 34 i).toInt = ((l[i] : Nat) : Int)) : ∀ (n : Nat) (x4 : Int32) (I : Nat → Int32) (A : Nat → Nat → Int32) (i : Nat), x4.toInt = (i : Int) - 1 → i ≤ l.length → RPp I A (posL st (tM T) (l.drop i)) → (∀ j, j ≠ 24 → A j = A0 j) → (∀ j, j ∉ [25, 26, 27, 28, 29] → I j = I0 j) → f_place_147 n x1 x4 I A = some o → RPp o.2.1 o.2.2 (posL st (tM T) l) ∧ MVs o.2.1 o.2.2 (posL st (tM T) l) ∧ PLf I0 o.2.1 A0 o.2.2 := by
  have good : ∀ l', AN T l' → PGd (posL st (tM T) l') ∧ onb (posL st (tM T) l') ≤ 1299 := by
    intro l' h'
    cases l' with
    | nil => exact ⟨hL.1, by have := hL.2.1.2; show onb st ≤ 1299; omega⟩
    | cons k l' =>
      have e : posL st (tM T) (k :: l') = posT st T k := by
        unfold posT
        rw [anc_s hw h'.1.1 h'.1.2, ← h'.2.1]
      rw [e]
      have q := lt_pg hw hL k h'.1.2
      have h3 := hw.1
      have h4 := h'.1.2
      exact ⟨q.1, by omega⟩
  intro n
  induction n with
  | zero => intro x4 I A i _ _ _ _ _ hf; cases hf
  | succ n ih =>
    intro x4 I A i hx hi hR hA hI hf
    have hf : f_place_147s (f_place_147 n) x1 x4 I A = some o := hf
    have h300 := hw.1
    unfold f_place_147s at hf
    rcases m_ifE hf with ⟨c1, hf⟩ | ⟨c1, hf⟩
    · skip
      replace c1 := ti_ltP (a := x4) (b := (0 : Int32)) c1 rfl (show (0 : Int32).toInt = 0 from rfl)
      obtain ⟨⟨r1, Ic1, Ac1⟩, h_r1, hf⟩ := m_clE hf
      dsimp only at hf
      have i0 : i = 0 := by omega
      subst i0
      rw [List.drop_zero] at hR
      obtain ⟨g1, g2⟩ := good l hl
      obtain ⟨a1, a2, a3⟩ := rp_find hR g1 (by omega) h_r1
      dsimp only at a1 a2 a3
      cases hf
      try dsimp only
      refine ⟨a1, a2, fun j hj => (a3.1 j hj).trans (hI j (fun e => hj (by simp at e ⊢; omega))), fun j hj => (a3.2 j hj).trans (hA j (fun e => hj (by simp; omega)))⟩
    · skip
      replace c1 := ti_ltN (a := x4) (b := (0 : Int32)) c1 rfl (show (0 : Int32).toInt = 0 from rfl)
      obtain ⟨v2, e_v2, hf⟩ := m_bndE hf
      have t_v2 : v2.toInt = 301 * x1.toInt := ti_mul e_v2 (show (301 : Int32).toInt = 301 from rfl) rfl (by omega) (by omega)
      obtain ⟨-, hf⟩ := m_chkE hf
      obtain ⟨v3, e_v3, hf⟩ := m_bndE hf
      obtain ⟨j, rfl⟩ : ∃ j, i = j + 1 := ⟨i - 1, by omega⟩
      have jl : j < l.length := by omega
      have t3 : v3.toInt = ((l[j] : Nat) : Int) := by rw [e_v3, cl_n (n := j) (by omega), hA 34 (by decide)]; exact hp j jl
      have dj : l.drop j = l[j] :: l.drop (j + 1) := List.drop_eq_getElem_cons jl
      have aj := an_drop (T := T) j l hl
      rw [dj] at aj
      obtain ⟨aj1, aj2, aj3⟩ := aj
      obtain ⟨v4, e_v4, hf⟩ := m_bndE hf
      have t_v4 : v4.toInt = v2.toInt + v3.toInt := ti_add e_v4 rfl rfl (by omega) (by omega)
      obtain ⟨-, hf⟩ := m_chkE hf
      obtain ⟨v5, e_v5, hf⟩ := m_bndE hf
      have t5 : v5.toInt = tM T l[j] := by
        have h3 := hw.1
        rw [e_v5, cl_n (n := 301 * g + l[j]) (by omega), hA 9 (by decide)]; exact hM _ aj1.1 aj1.2
      obtain ⟨g1, g2⟩ := good _ aj3
      have LG : LGo (posL st (tM T) (l.drop (j + 1))) v5.toInt := by
        rw [t5, aj2]
        exact hL.2.2 _ aj1.1 aj1.2
      obtain ⟨⟨r6, Ic6, Ac6⟩, h_r6, hf⟩ := m_clE hf
      dsimp only at hf
      obtain ⟨b1, b2, b3⟩ := rp_make hR g1 LG (by omega) h_r6
      dsimp only at b1 b2 b3
      rw [t5] at b1
      obtain ⟨v7, e_v7, hf⟩ := m_bndE hf
      have t_v7 : v7.toInt = x4.toInt + (-1) := ti_add e_v7 rfl (show (-1 : Int32).toInt = -1 from rfl) (by omega) (by omega)
      refine ih v7 Ic6 Ac6 j (by omega) (by omega) (by rw [dj]; exact b1) (fun k hk => (b3 k hk).trans (hA k hk)) (fun k hk => (b2 k hk).trans (hI k hk)) hf
theorem pl_42 (hg : g ≤ 1) (h1 : x1.toInt = (g : Int)) (hw : WT T) (hL : LTr st T) {l : List Nat} (hl : AN T l) (hll : l.length ≤ 300) (h3 : x3.toInt = (l.length : Int)) (hI : TJ I) (hM : ∀ k, 1 ≤ k → k ≤ tn T → (A0 9 (301 * g + k)).toInt = tM T k) (hp : ∀ (i : Nat) (h : i < l.length), (A0 34 i).toInt = ((l[i] : Nat) : Int)) (hS : SPp A0 g st) : ∀ (n : Nat) (x4 : Int32) (A : Nat → Nat → Int32), (0 ≤ x4.toInt ∧ x4.toInt ≤ 64) → TK A → (∀ j, j ≠ 24 → A j = A0 j) → (∀ s, 0 ≤ s → s < x4.toInt → mR A s = om st s) → f_place_42 n x1 x3 x4 I A = some o → RPp o.2.1 o.2.2 (posL st (tM T) l) ∧ MVs o.2.1 o.2.2 (posL st (tM T) l) ∧ PLf I o.2.1 A0 o.2.2 := by
  obtain ⟨⟨s1, s2, s3, s4, s5⟩, so⟩ := hS
  have n17 : ∀ (v w : Int32) (q : Int), 0 ≤ q → v.toInt = q → w = A0 17 v.toNatClampNeg → w = A0 17 q.toNat := fun v w q q0 hv hwv => by
    rw [hwv, cl_n (n := q.toNat) (by omega)]
  intro n
  induction n with
  | zero => intro x4 A _ _ _ _ hf; cases hf
  | succ n ih =>
    intro x4 A hx hA hAo hm hf
    have hf : f_place_42s (f_place_42 n) x1 x3 x4 I A = some o := hf
    have e17 := hAo 17 (by decide)
    unfold f_place_42s at hf
    rcases m_ifE hf with ⟨c1, hf⟩ | ⟨c1, hf⟩
    · skip
      replace c1 := ti_leP (a := (64 : Int32)) (b := x4) c1 (show (64 : Int32).toInt = 64 from rfl) rfl
      obtain ⟨v1, e_v1, hf⟩ := m_bndE hf
      have t_v1 : v1.toInt = 5 * x1.toInt := ti_mul e_v1 (show (5 : Int32).toInt = 5 from rfl) rfl (by omega) (by omega)
      obtain ⟨-, hf⟩ := m_chkE hf
      obtain ⟨v2, e_v2, hf⟩ := m_bndE hf
      obtain ⟨I3, e_I3, hf⟩ := m_bndE hf
      have q2 : v2 = A0 17 (5 * (g : Int)).toNat := n17 v1 v2 (5 * (g : Int)) (by omega) (by omega) (by rw [e_v2, e17])
      have hI3 : TJ I3 := by rw [e_I3]; exact tj_u hI (by rw [q2, s2]; exact (show (0 : Int) ≤ osd st by have := hL.1.1; omega)) (by rw [q2, s2]; exact (show osd st ≤ (1 : Int) by have := hL.1.1; omega))
      obtain ⟨v4, e_v4, hf⟩ := m_bndE hf
      have t_v4 : v4.toInt = 5 * x1.toInt := ti_mul e_v4 (show (5 : Int32).toInt = 5 from rfl) rfl (by omega) (by omega)
      obtain ⟨v5, e_v5, hf⟩ := m_bndE hf
      have t_v5 : v5.toInt = v4.toInt + 1 := ti_add e_v5 rfl (show (1 : Int32).toInt = 1 from rfl) (by omega) (by omega)
      obtain ⟨-, hf⟩ := m_chkE hf
      obtain ⟨v6, e_v6, hf⟩ := m_bndE hf
      obtain ⟨I7, e_I7, hf⟩ := m_bndE hf
      have q6 : v6 = A0 17 (5 * (g : Int) + 1).toNat := n17 v5 v6 (5 * (g : Int) + 1) (by omega) (by omega) (by rw [e_v6, e17])
      have hI7 : TJ I7 := by rw [e_I7]; exact tj_w hI3 rfl
      obtain ⟨v8, e_v8, hf⟩ := m_bndE hf
      have t_v8 : v8.toInt = 5 * x1.toInt := ti_mul e_v8 (show (5 : Int32).toInt = 5 from rfl) rfl (by omega) (by omega)
      obtain ⟨v9, e_v9, hf⟩ := m_bndE hf
      have t_v9 : v9.toInt = v8.toInt + 2 := ti_add e_v9 rfl (show (2 : Int32).toInt = 2 from rfl) (by omega) (by omega)
      obtain ⟨-, hf⟩ := m_chkE hf
      obtain ⟨v10, e_v10, hf⟩ := m_bndE hf
      obtain ⟨I11, e_I11, hf⟩ := m_bndE hf
      have q10 : v10 = A0 17 (5 * (g : Int) + 2).toNat := n17 v9 v10 (5 * (g : Int) + 2) (by omega) (by omega) (by rw [e_v10, e17])
      have hI11 : TJ I11 := by rw [e_I11]; exact tj_w hI7 rfl
      obtain ⟨v12, e_v12, hf⟩ := m_bndE hf
      have t_v12 : v12.toInt = 5 * x1.toInt := ti_mul e_v12 (show (5 : Int32).toInt = 5 from rfl) rfl (by omega) (by omega)
      obtain ⟨v13, e_v13, hf⟩ := m_bndE hf
      have t_v13 : v13.toInt = v12.toInt + 3 := ti_add e_v13 rfl (show (3 : Int32).toInt = 3 from rfl) (by omega) (by omega)
      obtain ⟨-, hf⟩ := m_chkE hf
      obtain ⟨v14, e_v14, hf⟩ := m_bndE hf
      obtain ⟨I15, e_I15, hf⟩ := m_bndE hf
      have hI15 : TJ I15 := by rw [e_I15]; exact tj_w hI11 rfl
      obtain ⟨v16, e_v16, hf⟩ := m_bndE hf
      have t_v16 : v16.toInt = 5 * x1.toInt := ti_mul e_v16 (show (5 : Int32).toInt = 5 from rfl) rfl (by omega) (by omega)
      obtain ⟨v17, e_v17, hf⟩ := m_bndE hf
      have t_v17 : v17.toInt = v16.toInt + 4 := ti_add e_v17 rfl (show (4 : Int32).toInt = 4 from rfl) (by omega) (by omega)
      obtain ⟨-, hf⟩ := m_chkE hf
      obtain ⟨v18, e_v18, hf⟩ := m_bndE hf
      obtain ⟨I19, e_I19, hf⟩ := m_bndE hf
      have q18 : v18 = A0 17 (5 * (g : Int) + 4).toNat := n17 v17 v18 (5 * (g : Int) + 4) (by omega) (by omega) (by rw [e_v18, e17])
      have nb := hL.2.1
      have hI19 : TJ I19 := by rw [e_I19]; exact tj_u hI15 (by rw [q18, s5]; exact (show (-1 : Int) ≤ onb st by omega)) (by rw [q18, s5]; exact (show onb st ≤ (2000 : Int) by omega))
      have oI : ∀ j, j ∉ [25, 26, 27, 28, 29] → I19 j = I j := fun j hj => by
        simp at hj
        rw [e_I19, upd_ne (by omega), e_I15, upd_ne (by omega), e_I11, upd_ne (by omega), e_I7, upd_ne (by omega), e_I3, upd_ne (by omega)]
      obtain ⟨v20, e_v20, hf⟩ := m_bndE hf
      have t_v20 : v20.toInt = x3.toInt - 1 := ti_sub e_v20 rfl (show (1 : Int32).toInt = 1 from rfl) (by omega) (by omega)
      have hmm : mR A = om st := by
        funext s
        by_cases c : 0 ≤ s ∧ s < 64
        · exact hm s c.1 (by omega)
        · unfold mR
          rw [if_neg c]
          exact (so s c).symm
      refine pl_147 (I0 := I) (A0 := A0) hg h1 hw hL hl hll hM hp mFuel v20 I19 A l.length (by omega) (Nat.le_refl _) ?_ hAo oI hf
      rw [List.drop_length]
      refine ⟨⟨hI19, hA⟩, hmm, ?_, ?_, ?_, ?_⟩
      · rw [e_I19, upd_ne (by decide), e_I15, upd_ne (by decide), e_I11, upd_ne (by decide), e_I7, upd_ne (by decide), e_I3, upd_self, q2]; exact s2
      · rw [e_I19, upd_ne (by decide), e_I15, upd_ne (by decide), e_I11, upd_ne (by decide), e_I7, upd_self, q6]; exact s3
      · rw [e_I19, upd_ne (by decide), e_I15, upd_ne (by decide), e_I11, upd_self, q10]; exact s4
      · rw [e_I19, upd_self, q18]; exact s5
    · skip
      replace c1 := ti_leN (a := (64 : Int32)) (b := x4) c1 (show (64 : Int32).toInt = 64 from rfl) rfl
      obtain ⟨v21, e_v21, hf⟩ := m_bndE hf
      have t_v21 : v21.toInt = 64 * x1.toInt := ti_mul e_v21 (show (64 : Int32).toInt = 64 from rfl) rfl (by omega) (by omega)
      obtain ⟨v22, e_v22, hf⟩ := m_bndE hf
      have t_v22 : v22.toInt = v21.toInt + x4.toInt := ti_add e_v22 rfl rfl (by omega) (by omega)
      obtain ⟨-, hf⟩ := m_chkE hf
      obtain ⟨v23, e_v23, hf⟩ := m_bndE hf
      obtain ⟨-, hf⟩ := m_chkE hf
      obtain ⟨A24, e_A24, hf⟩ := m_bndE hf
      obtain ⟨v25, e_v25, hf⟩ := m_bndE hf
      have t_v25 : v25.toInt = x4.toInt + 1 := ti_add e_v25 rfl (show (1 : Int32).toInt = 1 from rfl) (by omega) (by omega)
      have t23 : v23.toInt = om st x4.toInt := by
        rw [e_v23, cl_n (n := (64 * (g : Int) + x4.toInt).toNat) (by omega), hAo 16 (by decide)]
        exact s1 x4.toInt (by omega) (by omega)
      have mb := hL.1.2.1 x4.toInt
      have o24 : ∀ j, j ≠ 24 → A24 j = A j := fun j hj => by rw [e_A24]; exact va_up_ne _ _ hj
      have mu := mR_up e_A24 (by omega) (by omega)
      refine ih v25 A24 (by omega) (by rw [e_A24]; exact tk_u hA (tf_b v23).1 (tf_b v23).2) (fun j hj => (o24 j hj).trans (hAo j hj)) (fun s s0 s1 => ?_) hf
      rw [mu]
      by_cases e : s = x4.toInt
      · rw [e, up_s]; exact t23
      · rw [up_n e]; exact hm s s0 (by omega)
theorem pl_5 (hg : g ≤ 1) (h1 : x1.toInt = (g : Int)) (hw : WT T) (hL : LTr st T) (hI : TJ I) {nd : Nat} (hnd : nd ≤ tn T) (hP : ∀ k, k ≤ tn T → (A0 8 (301 * g + k)).toInt = tP T k) (hM : ∀ k, 1 ≤ k → k ≤ tn T → (A0 9 (301 * g + k)).toInt = tM T k) (hS : SPp A0 g st) : ∀ (n : Nat) (x3 x4 : Int32) (A : Nat → Nat → Int32) (pre : List Nat) (k : Nat), x3.toInt = (pre.length : Int) → x4.toInt = (k : Int) → k ≤ tn T → pre.length + k ≤ 300 → ancL (tP T) nd nd = pre ++ ancL (tP T) k k → TK A → (∀ j, j ≠ 34 → A j = A0 j) → (∀ (i : Nat) (h : i < pre.length), (A 34 i).toInt = ((pre[i] : Nat) : Int)) → f_place_5 n x1 x3 x4 I A = some o → RPp o.2.1 o.2.2 (posT st T nd) ∧ MVs o.2.1 o.2.2 (posT st T nd) ∧ PLf I o.2.1 A0 o.2.2 := by
  intro n
  induction n with
  | zero => intro x3 x4 A pre k _ _ _ _ _ _ _ _ hf; cases hf
  | succ n ih =>
    intro x3 x4 A pre k h3 h4 hk hpk hanc hA hAo hp hf
    have hf : f_place_5s (f_place_5 n) x1 x3 x4 I A = some o := hf
    have h300 := hw.1
    unfold f_place_5s at hf
    rcases m_ifE hf with ⟨c1, hf⟩ | ⟨c1, hf⟩
    · skip
      replace c1 := ti_leP (a := x4) (b := (0 : Int32)) c1 rfl (show (0 : Int32).toInt = 0 from rfl)
      have k0 : k = 0 := by omega
      subst k0
      have e : ancL (tP T) nd nd = pre := by rw [hanc]; exact List.append_nil _
      unfold posT
      rw [e]
      have hl : AN T pre := by rw [← e]; exact an_anc hw nd hnd
      have S' : SPp A g st := by
        unfold SPp SPo at hS ⊢
        rw [hAo 16 (by decide), hAo 17 (by decide)]
        exact hS
      obtain ⟨a1, a2, a3⟩ := pl_42 (A0 := A) hg h1 hw hL hl (by omega) h3 hI (fun j j1 j2 => by rw [hAo 9 (by decide)]; exact hM j j1 j2) hp S' mFuel 0 A (by decide) hA (fun _ _ => rfl) (fun s s0 s1 => by have z : (0 : Int32).toInt = 0 := rfl; omega) hf
      exact ⟨a1, a2, a3.1, fun j hj => (a3.2 j hj).trans (hAo j (fun e => hj (by simp; omega)))⟩
    · skip
      replace c1 := ti_leN (a := x4) (b := (0 : Int32)) c1 rfl (show (0 : Int32).toInt = 0 from rfl)
      obtain ⟨-, hf⟩ := m_chkE hf
      obtain ⟨A1, e_A1, hf⟩ := m_bndE hf
      obtain ⟨v2, e_v2, hf⟩ := m_bndE hf
      have t_v2 : v2.toInt = x3.toInt + 1 := ti_add e_v2 rfl (show (1 : Int32).toInt = 1 from rfl) (by omega) (by omega)
      obtain ⟨v3, e_v3, hf⟩ := m_bndE hf
      have t_v3 : v3.toInt = 301 * x1.toInt := ti_mul e_v3 (show (301 : Int32).toInt = 301 from rfl) rfl (by omega) (by omega)
      obtain ⟨v4, e_v4, hf⟩ := m_bndE hf
      have t_v4 : v4.toInt = v3.toInt + x4.toInt := ti_add e_v4 rfl rfl (by omega) (by omega)
      obtain ⟨-, hf⟩ := m_chkE hf
      obtain ⟨v5, e_v5, hf⟩ := m_bndE hf
      have k1 : 1 ≤ k := by omega
      have hb := (hw.2.1 k k1 hk).1
      have x3n : x3.toNatClampNeg = pre.length := cl_n h3
      rw [x3n] at e_A1
      have o1 : ∀ j, j ≠ 34 → A1 j = A j := fun j hj => by rw [e_A1]; exact va_up_ne _ _ hj
      have s1 : A1 34 = upd (A 34) pre.length x4 := by rw [e_A1]; exact va_up_self _ _ _
      have t5 : v5.toInt = tP T k := by rw [e_v5, cl_n (n := 301 * g + k) (by omega), o1 8 (by decide), hAo 8 (by decide)]; exact hP k hk
      have ll : (pre ++ [k]).length = pre.length + 1 := by rw [List.length_append]; rfl
      refine ih v2 v5 A1 (pre ++ [k]) (tP T k).toNat (by omega) (by omega) (by omega) (by omega) ?_ (by rw [e_A1]; exact tk_u hA (show (0 : Int) ≤ x4.toInt by omega) (show x4.toInt ≤ (300 : Int) by omega)) (fun j hj => (o1 j hj).trans (hAo j hj)) (fun i hi => ?_) hf
      · rw [hanc, anc_s hw k1 hk, List.append_assoc]; rfl
      · rw [s1]
        by_cases e : i = pre.length
        · subst e
          rw [upd_self, List.getElem_append_right (Nat.le_refl _)]
          simp
          exact h4
        · rw [upd_ne e, List.getElem_append_left (show i < pre.length by omega)]
          exact hp i (by omega)
/-- the reference goes to a node -/
theorem v_place (hg : g ≤ 1) (h1 : x1.toInt = (g : Int)) (hw : WT T) (hL : LTr st T) (hI : TJ I) (hA : TK A) (hT : TRr A g T) (hS : SPp A g st) {nd : Nat} (h2 : x2.toInt = (nd : Int)) (hnd : nd ≤ tn T) (hf : f_place x1 x2 I A = some o) : RPp o.2.1 o.2.2 (posT st T nd) ∧ MVs o.2.1 o.2.2 (posT st T nd) ∧ PLf I o.2.1 A o.2.2 :=
  pl_5 (A0 := A) hg h1 hw hL hI hnd (fun k hk => (hT.2.2 k hk).1.1) (fun k _ hk => (hT.2.2 k hk).1.2) hS mFuel 0 x2 A [] nd rfl h2 hnd (by have := hw.1; show 0 + nd ≤ 300; omega) rfl hA (fun _ _ => rfl) (fun i hi => absurd hi (Nat.not_lt_zero _)) hf
end PLC
end
section
section RSU
variable {m : Int → Int} {sd rt ps kw kb ko : Int} {ch : Int → Int} {a b v w : Int}
/-- the answer of signs is one -/
theorem rsr_u (h : RSr m sd rt ps kw kb ko ch a b v) (g : RSr m sd rt ps kw kb ko ch a b w) : v = w := by
  unfold RSr at h g
  rcases h with ⟨h1, h2⟩ | ⟨h1, h2⟩ <;> rcases g with ⟨g1, g2⟩ | ⟨g1, g2⟩
  · rcases h2 with ⟨h2, k1, a1, a2, a3, a4⟩ | ⟨h2, h3⟩ <;> rcases g2 with ⟨g2, k2, b1, b2, b3, b4⟩ | ⟨g2, g3⟩
    · have := cnt_1 h2 (n := k1) (k := k2) ⟨a2, a3⟩ ⟨b2, b3⟩ a1 b1
      rw [a4, b4, this]
    · exact absurd h2 g2
    · exact absurd g2 h2
    · rw [h3, g3]
  · omega
  · omega
  · rcases h2 with ⟨h2, h3⟩ | ⟨h2, h3⟩ <;> rcases g2 with ⟨g2, g3⟩ | ⟨g2, g3⟩
    · rw [h3, g3]
    · exact absurd h2 g2
    · exact absurd g2 h2
    · rw [h3, g3]
theorem rsr_e : ∃ v, RSr m sd rt ps kw kb ko ch a b v := by
  by_cases h0 : 0 < cnt (fun key => LR m sd rt ps ko key ∧ FRs m sd rt ps kw kb false ch a b (mvk key)) 32768
  · by_cases h1 : cnt (fun key => LR m sd rt ps ko key ∧ FRs m sd rt ps kw kb false ch a b (mvk key)) 32768 = 1
    · obtain ⟨key, k1, k2, -⟩ := cnt_sur (k := 0) h0
      exact ⟨mvk key, Or.inl ⟨h0, Or.inl ⟨h1, key, k1, k2.1, k2.2, rfl⟩⟩⟩
    · exact ⟨-1, Or.inl ⟨h0, Or.inr ⟨h1, rfl⟩⟩⟩
  · by_cases h1 : cnt (fun key => LR m sd rt ps ko key ∧ FRs m sd rt ps kw kb true ch a b (mvk key)) 32768 = 1
    · exact ⟨-2, Or.inr ⟨by omega, Or.inl ⟨h1, rfl⟩⟩⟩
    · exact ⟨-1, Or.inr ⟨by omega, Or.inr ⟨h1, rfl⟩⟩⟩
end RSU
/-- what signs tell in a position: a move, or less than 0 -/
noncomputable def sgV (P : PO) (ch : Int → Int) (a b : Int) : Int := Classical.choose (rsr_e (m := om P) (sd := osd P) (rt := ort P) (ps := ops P) (kw := okw P) (kb := okb P) (ko := oko P) (ch := ch) (a := a) (b := b))
theorem sgV_s {P : PO} {ch : Int → Int} {a b : Int} : RSr (om P) (osd P) (ort P) (ops P) (okw P) (okb P) (oko P) ch a b (sgV P ch a b) := Classical.choose_spec (rsr_e (m := om P) (sd := osd P) (rt := ort P) (ps := ops P) (kw := okw P) (kb := okb P) (ko := oko P) (ch := ch) (a := a) (b := b))
theorem sgV_r {P : PO} {ch : Int → Int} {a b v : Int} (h : RSr (om P) (osd P) (ort P) (ops P) (okw P) (okb P) (oko P) ch a b v) : v = sgV P ch a b := rsr_u h sgV_s
theorem sgV_c {P : PO} {ch : Int → Int} {a b v : Int} (hP : PGd P) (hz : ∀ i, a ≤ i → i < b → ch i ≠ 0) (h : RSc (om P) (osd P) (ort P) (ops P) (okw P) (okb P) (oko P) ((txF false ch a (b - a).toNat).take 8) ((txF true ch a (b - a).toNat).take 8) v) : v = sgV P ch a b ∧ (0 ≤ v → LGo P v) := rs_eq hP rfl hz h sgV_s
theorem sgV_l {P : PO} {ch : Int → Int} {a b : Int} (hP : PGd P) (h : 0 ≤ sgV P ch a b) : LGo P (sgV P ch a b) := by
  have g := sgV_s (P := P) (ch := ch) (a := a) (b := b)
  unfold RSr at g
  rcases g with ⟨-, ⟨-, key, k1, k2, k3, k4⟩ | ⟨-, g⟩⟩ | ⟨-, ⟨-, g⟩ | ⟨-, g⟩⟩
  · rw [k4]; exact (lg_key hP rfl k1 k2).1
  · omega
  · omega
  · omega
/-- a move at p (behind blanks), for the node la: where it ends, the tree then -/
noncomputable def mvP (ch : Int → Int) (N : Int) (st : PO) (T : TRa) (la : Nat) (p : Int) : Option (Int × TRa) := match nuP ch (onb (posT st T la)) p with
  | none => none
  | some q => if ¬ ((97 ≤ ch q ∧ ch q ≤ 122) ∨ (65 ≤ ch q ∧ ch q ≤ 90)) then none else if sgV (posT st T la) ch q (sgk ch q) < 0 then none else if chL (tM T) (sgV (posT st T la) ch q (sgk ch q)) (tL T la) ≠ -1 then none else if 300 ≤ tn T then none else match mkP ch (sgk ch q) with
    | none => none
    | some (e2, K) => match rmkP ch N 2001 (blk ch e2) [] with
      | none => none
      | some (e3, w) => some (e3, rkT (mkT (grT T la (sgV (posT st T la) ch q (sgk ch q))) (tn T + 1) K) (tn T + 1) w)
section MVE
variable {ch : Int → Int} {N p q : Int} {st : PO} {T : TRa} {la : Nat}
theorem mv_1 (h : nuP ch (onb (posT st T la)) p = none) : mvP ch N st T la p = none := by
  unfold mvP; rw [h]
theorem mv_2 (h : nuP ch (onb (posT st T la)) p = some q) (g : ¬ isL (ch q)) : mvP ch N st T la p = none := by
  unfold mvP; rw [h]; exact if_pos g
theorem mv_3 (h : nuP ch (onb (posT st T la)) p = some q) (h2 : sgV (posT st T la) ch q (sgk ch q) < 0) : mvP ch N st T la p = none := by
  unfold mvP; rw [h]
  show (if _ then none else (if _ then none else _)) = none
  split
  · rfl
  · rfl
theorem mv_4 (h : nuP ch (onb (posT st T la)) p = some q) (h2 : chL (tM T) (sgV (posT st T la) ch q (sgk ch q)) (tL T la) ≠ -1) : mvP ch N st T la p = none := by
  unfold mvP; rw [h]
  show (if _ then none else (if _ then none else (if _ then none else _))) = none
  split
  · rfl
  · split
    · rfl
    · rfl
theorem mv_5 (h : nuP ch (onb (posT st T la)) p = some q) (h2 : 300 ≤ tn T) : mvP ch N st T la p = none := by
  unfold mvP; rw [h]
  show (if _ then none else (if _ then none else (if _ then none else (if _ then none else _)))) = none
  split
  · rfl
  · split
    · rfl
    · split
      · rfl
      · rfl
theorem mv_6 (h : nuP ch (onb (posT st T la)) p = some q) (h1 : isL (ch q)) (h2 : ¬ sgV (posT st T la) ch q (sgk ch q) < 0) (h3 : chL (tM T) (sgV (posT st T la) ch q (sgk ch q)) (tL T la) = -1) (h4 : ¬ 300 ≤ tn T) : mvP ch N st T la p = match mkP ch (sgk ch q) with
    | none => none
    | some (e2, K) => match rmkP ch N 2001 (blk ch e2) [] with
      | none => none
      | some (e3, w) => some (e3, rkT (mkT (grT T la (sgV (posT st T la) ch q (sgk ch q))) (tn T + 1) K) (tn T + 1) w) := by
  unfold mvP
  rw [h]
  show (if _ then none else (if _ then none else (if _ then none else (if _ then none else _)))) = _
  rw [if_neg (fun g => g h1), if_neg h2, if_neg (fun g => g h3), if_neg h4]
end MVE
/-- all moves, lines within lines: the stack of open lines (root, last), the innermost first -/
noncomputable def mach (ch : Int → Int) (N : Int) (st : PO) : Nat → Int → List (Nat × Nat) → TRa → Option (Int × TRa)
  | 0, _, _, _ => none
  | _ + 1, _, [], _ => none
  | k + 1, p, (ro, la) :: rest, T => if rest = [] ∧ rsV ch (blk ch p) ≠ -1 then some (blk ch p, T) else if la ≠ ro ∧ ch (blk ch p) = 40 then (if 6 ≤ rest.length then none else mach ch N st k (blk ch p + 1) (((tP T la).toNat, (tP T la).toNat) :: (ro, la) :: rest) T) else if la ≠ ro ∧ rest ≠ [] ∧ ch (blk ch p) = 41 then (match rmkP ch N 2001 (blk ch (blk ch p + 1)) (tR T (rest.headD (0, 0)).2) with
    | none => none
    | some (e, w) => mach ch N st k e rest (rkT T (rest.headD (0, 0)).2 w)) else (match mvP ch N st T la (blk ch p) with
    | none => none
    | some (e, T') => mach ch N st k e ((ro, tn T + 1) :: rest) T')
section MCH
variable {ch : Int → Int} {N p : Int} {st : PO} {T : TRa} {ro la : Nat} {rest : List (Nat × Nat)} {k : Nat}
theorem mc_r (h1 : rest = []) (h2 : rsV ch (blk ch p) ≠ -1) : mach ch N st (k + 1) p ((ro, la) :: rest) T = some (blk ch p, T) := if_pos ⟨h1, h2⟩
theorem mc_o (h1 : ¬ (rest = [] ∧ rsV ch (blk ch p) ≠ -1)) (h2 : la ≠ ro ∧ ch (blk ch p) = 40) : mach ch N st (k + 1) p ((ro, la) :: rest) T = if 6 ≤ rest.length then none else mach ch N st k (blk ch p + 1) (((tP T la).toNat, (tP T la).toNat) :: (ro, la) :: rest) T := by
  show (if _ then _ else (if _ then _ else _)) = _
  rw [if_neg h1, if_pos h2]
theorem mc_c (h1 : ¬ (rest = [] ∧ rsV ch (blk ch p) ≠ -1)) (h3 : la ≠ ro ∧ rest ≠ [] ∧ ch (blk ch p) = 41) : mach ch N st (k + 1) p ((ro, la) :: rest) T = match rmkP ch N 2001 (blk ch (blk ch p + 1)) (tR T (rest.headD (0, 0)).2) with
    | none => none
    | some (e, w) => mach ch N st k e rest (rkT T (rest.headD (0, 0)).2 w) := by
  show (if _ then _ else (if _ then _ else (if _ then _ else _))) = _
  rw [if_neg h1, if_neg (fun e => by have := e.2; have := h3.2.2; omega), if_pos h3]
theorem mc_m (h1 : ¬ (rest = [] ∧ rsV ch (blk ch p) ≠ -1)) (h2 : ¬ (la ≠ ro ∧ ch (blk ch p) = 40)) (h3 : ¬ (la ≠ ro ∧ rest ≠ [] ∧ ch (blk ch p) = 41)) : mach ch N st (k + 1) p ((ro, la) :: rest) T = match mvP ch N st T la (blk ch p) with
    | none => none
    | some (e, T') => mach ch N st k e ((ro, tn T + 1) :: rest) T' := by
  show (if _ then _ else (if _ then _ else (if _ then _ else _))) = _
  rw [if_neg h1, if_neg h2, if_neg h3]
end MCH
end
section
/-- what stays while moves of game g are read -/
noncomputable def KPm (S0 : ZS) (g g' a : Nat) : Prop := KPc S0 g' a ∨ a = g + 1 ∨ a = g + 2 ∨ a = g + 6 ∨ ∃ i n, zB S0 (g + 6) i = some n ∧ (a = n ∨ a = n + 1 ∨ a = n + 2)
section KMS
variable {S0 S S' : ZS} {g g' : Nat} {W : Nat → Prop}
theorem fr_mc (h : FR (fun a => ¬ KPm S0 g g' a) S S') : FR (fun a => ¬ KPc S0 g' a) S S' := fr_m h (fun a _ hn hk => hn (Or.inl hk))
theorem km_B (hg : GG g g') (hF : FR (fun a => ¬ KPm S0 g g' a) S0 S) (hX : FIX S0) : zB S (g + 6) = zB S0 (g + 6) := by
  have b : (g = 35 ∧ g' = 99) ∨ (g = 99 ∧ g' = 35) := hg
  exact (fr_e hF (fx_l hX (by omega) (by omega)) (fun n => n (Or.inr (Or.inr (Or.inr (Or.inl rfl)))))).2.2.2.2.1
theorem km_of {a : Nat} (hg : GG g g') (hF : FR (fun a => ¬ KPm S0 g g' a) S0 S) (hX : FIX S0) (h1 : ¬ KPc S0 g' a) (ha : a ≠ g + 1 ∧ a ≠ g + 2 ∧ a ≠ g + 6) (ht : ∀ i n, zB S (g + 6) i = some n → a ≠ n ∧ a ≠ n + 1 ∧ a ≠ n + 2) : ¬ KPm S0 g g' a := by
  rintro (h | h | h | h | ⟨i, n, h2, h3⟩)
  · exact h1 h
  · exact ha.1 h
  · exact ha.2.1 h
  · exact ha.2.2 h
  · rw [← km_B hg hF hX] at h2
    have := ht i n h2
    omega
theorem km_fix {a : Nat} (hC : CG S) (hg : GG g g') (hF : FR (fun a => ¬ KPm S0 g g' a) S0 S) (hX : FIX S0) (h1 : (23 ≤ a ∧ a ≤ 34) ∨ (43 ≤ a ∧ a ≤ 76) ∨ a = g ∨ a = g + 3 ∨ a = g + 4 ∨ a = g + 5 ∨ a = g + 7) : ¬ KPm S0 g g' a := by
  have b : (g = 35 ∧ g' = 99) ∨ (g = 99 ∧ g' = 35) := hg
  refine km_of hg hF hX (kp_fix hC hg (fr_mc hF) hX (by omega)) (by omega) (fun i n hn => ?_)
  have := ((gm_of hC (gg_g hg)).2 i n hn).1
  omega
theorem km_tc {a : Nat} (hC : CG S) (hg : GG g g') (hF : FR (fun a => ¬ KPm S0 g g' a) S0 S) (hX : FIX S0) (h : TCl S g a) : ¬ KPm S0 g g' a := by
  have G := gm_of hC (gg_g hg)
  rcases h with h | h | h | h | ⟨i, n, h1, h2⟩
  · exact km_fix hC hg hF hX (by omega)
  · exact km_fix hC hg hF hX (by omega)
  · exact km_fix hC hg hF hX (by omega)
  · exact km_fix hC hg hF hX (by omega)
  · obtain ⟨k1, k2⟩ := kp_node hC hg (fr_mc hF) hX h1
    obtain ⟨a1, a2, -, a4⟩ := G.1 i n h1
    have b : (g = 35 ∧ g' = 99) ∨ (g = 99 ∧ g' = 35) := hg
    rcases h2 with e | e <;> subst e
    · refine km_of hg hF hX k1 (by omega) (fun j m hm => ⟨fun e => ?_, fun e => ?_, fun e => ?_⟩)
      · have := (G.2 j m hm).2.1; rw [← e, a2] at this; omega
      · have := (G.2 j m hm).2.2.2.2.1; rw [← e, a2] at this; omega
      · have := (G.2 j m hm).2.2.2.2.2; rw [← e, a2] at this; omega
    · refine km_of hg hF hX k2 (by omega) (fun j m hm => ⟨fun e => ?_, fun e => ?_, fun e => ?_⟩)
      · have := (G.2 j m hm).2.1; rw [← e, a4] at this; omega
      · have e' : n = m := by omega
        have := (G.2 j m hm).2.1; rw [← e', a2] at this; omega
      · have e' : n = m + 1 := by omega
        have := (G.2 j m hm).2.2.2.2.1; rw [← e', a2] at this; omega
/-- cells of other kinds don't touch the trees' shape -/
theorem tz_k (hT : ZT S) (h : TZ S) (hF : FR W S S') (hk : ∀ a, zK S a < 18 → W a → zK S a ≠ 16 ∧ zK S a ≠ 1 ∧ (zK S a = 4 → zI S' 0 a = zI S 0 a ∧ zI S' 2 a = zI S 2 a ∧ zI S' 3 a = zI S 3 a)) : TZ S' := by
  refine tz_x hT h (fun a ha => fr_k hF ha) (fun a j ha _ => (hF a (by rw [ha]; decide)).1.2.2.1 (by rw [ha]; rfl) j) (fun a ha => ?_) (fun a ha => ?_) (fun a ha => ?_)
  · exact (fr_e hF (by rw [ha]; decide) (fun hw => (hk a (by rw [ha]; decide) hw).1 ha)).2.2.2.2.1
  · by_cases hw : W a
    · exact (hk a (by rw [ha]; decide) hw).2.2 ha
    · have e := fr_e hF (by rw [ha]; decide) hw
      exact ⟨e.2.2.1 0, e.2.2.1 2, e.2.2.1 3⟩
  · exact (fr_e hF (by rw [ha]; decide) (fun hw => (hk a (by rw [ha]; decide) hw).2.1 ha)).2.2.1 3
end KMS
/-- the class while it reads moves into game g: place p, start position st, tree T -/
noncomputable def CSt (S0 S : ZS) (g g' : Nat) (ch : Int → Int) (N p : Int) (st : PO) (T : TRa) : Prop := CG S ∧ (GG g g' ∧ FIX S0 ∧ FR (fun a => ¬ KPm S0 g g' a) S0 S) ∧ LW S ch N p ∧ p ≤ N ∧ zP S 3 23 = some g ∧ TRc S g T ∧ (WT T ∧ LTr st T) ∧ zI S 5 g = zI S0 5 g
/-- a refusal leaves this -/
noncomputable def CSn (S0 S : ZS) (g g' : Nat) : Prop := CG S ∧ FR (fun a => ¬ KPm S0 g g' a) S0 S ∧ zI S 5 g = zI S0 5 g
section CSS
variable {S0 S S' : ZS} {g g' : Nat} {ch : Int → Int} {N p q : Int} {st : PO} {T T' : TRa} {W : Nat → Prop}
theorem cs_n (h : CSt S0 S g g' ch N p st T) : CSn S0 S g g' := ⟨h.1, h.2.1.2.2, h.2.2.2.2.2.2.2⟩
/-- a step that keeps all but W -/
theorem cs_mk (h : CSt S0 S g g' ch N p st T) (hC : CG S') (hF : FR W S S') (hW : ∀ a, zK S a < 18 → W a → ¬ KPm S0 g g' a) (h5 : zI S' 5 g = zI S 5 g) (hL : LW S' ch N q) (hq : q ≤ N) (hT : TRc S' g T') (hw : WT T') (hl : LTr st T') : CSt S0 S' g g' ch N q st T' := by
  obtain ⟨c, ⟨hg, hX, hF0⟩, l, -, p3, -, -, i5⟩ := h
  have k23 := l.2.1.1
  exact ⟨hC, ⟨hg, hX, fr_t hF0 (fr_m hF hW)⟩, hL, hq, ((hF 23 (by rw [k23]; decide)).1.2.2.1 (by rw [k23]; rfl) 3).trans p3, hT, ⟨hw, hl⟩, h5.trans i5⟩
theorem cn_mk (h : CSn S0 S g g') (hC : CG S') (hF : FR W S S') (hW : ∀ a, zK S a < 18 → W a → ¬ KPm S0 g g' a) (h5 : zI S' 5 g = zI S 5 g) : CSn S0 S' g g' := ⟨hC, fr_t h.2.1 (fr_m hF hW), h5.trans h.2.2⟩
/-- W of fixed cells of the reader -/
noncomputable def WRd (a : Nat) : Prop := (23 ≤ a ∧ a ≤ 34) ∨ (43 ≤ a ∧ a ≤ 76)
theorem wr_k (hC : CG S) {a : Nat} (h : WRd a) : zK S a ≠ 16 ∧ zK S a ≠ 1 ∧ zK S a ≠ 4 := by
  have b : 1 ≤ a ∧ a ≤ 108 := by unfold WRd at h; omega
  rw [fx_k hC.2.2.1 b.1 b.2]
  have key : ∀ a, a ≤ 108 → ((23 ≤ a ∧ a ≤ 34) ∨ (43 ≤ a ∧ a ≤ 76)) → fxK a ≠ 16 ∧ fxK a ≠ 1 ∧ fxK a ≠ 4 := by decide
  exact key a b.2 h
theorem cg_rd (hC : CG S) (hT : ZT S') (hF : FR W S S') (hW : ∀ a, W a → WRd a) : CG S' := by
  refine cg_w hC hT (tz_k hC.1 hC.2.1 hF (fun a _ hw => ?_)) hF (fun h => ?_) (fun h => ?_) (fun h => ?_) (fun h => ?_)
  · obtain ⟨a1, a2, a3⟩ := wr_k hC (hW a hw)
    exact ⟨a1, a2, fun e => absurd e a3⟩
  · have := hW _ h; unfold WRd at this; omega
  · have := hW _ h; unfold WRd at this; omega
  · have := hW _ h; unfold WRd at this; omega
  · have := hW _ h; unfold WRd at this; omega
theorem tc_wr (hC : CG S) (hg : g = 35 ∨ g = 99) {a : Nat} (h : TCl S g a) : ¬ WRd a := by
  unfold WRd
  rcases h with h | h | h | h | ⟨i, n, h1, h2⟩
  · omega
  · omega
  · omega
  · omega
  · have := ((gm_of hC hg).1 i n h1).1
    omega
/-- a step within the reader's own cells -/
theorem cs_rd (h : CSt S0 S g g' ch N p st T) (hL : LW S' ch N q) (hq : q ≤ N) (hF : FR W S S') (hW : ∀ a, W a → WRd a) : CSt S0 S' g g' ch N q st T := by
  obtain ⟨c, ⟨hg, hX, hF0⟩, l, -, p3, tr, ⟨hw, hl⟩, -⟩ := id h
  have hb : (g = 35 ∧ g' = 99) ∨ (g = 99 ∧ g' = 35) := hg
  refine cs_mk h (cg_rd c hL.1 hF hW) hF (fun a _ hwa => km_fix c hg hF0 hX (by have := hW a hwa; unfold WRd at this; omega)) ?_ hL hq (trc_e c (gg_g hg) tr (fun a ha => ?_)) hw hl
  · exact (fr_e hF (fx_l c.2.2.1 (by omega) (by omega)) (fun hwa => by have := hW _ hwa; unfold WRd at this; omega)).2.2.1 5
  · have kl : zK S a < 18 := by
      obtain ⟨⟨kg, -⟩, ⟨-, -, k3, k4, k5, -⟩, -⟩ := fx_g c.2.2.1 (gg_g hg)
      rcases ha with e | e | e | e | ⟨i, n, h1, h2⟩
      · rw [e, kg]; decide
      · rw [e, k3]; decide
      · rw [e, k4]; decide
      · rw [e, k5]; decide
      · obtain ⟨-, a2, -, a4⟩ := (gm_of c (gg_g hg)).1 i n h1
        rcases h2 with e | e <;> rw [e]
        · rw [a2]; decide
        · rw [a4]; decide
    exact fr_e hF kl (fun hwa => tc_wr c (gg_g hg) ha (hW a hwa))
theorem cn_rd (h : CSn S0 S g g') (hg : GG g g') (hX : FIX S0) (hT : ZT S') (hF : FR W S S') (hW : ∀ a, W a → WRd a) : CSn S0 S' g g' := by
  have hb : (g = 35 ∧ g' = 99) ∨ (g = 99 ∧ g' = 35) := hg
  refine cn_mk h (cg_rd h.1 hT hF hW) hF (fun a _ hwa => km_fix h.1 hg h.2.1 hX (by have := hW a hwa; unfold WRd at this; omega)) ?_
  exact (fr_e hF (fx_l h.1.2.2.1 (by omega) (by omega)) (fun hwa => by have := hW _ hwa; unfold WRd at this; omega)).2.2.1 5
theorem tc_lt (hC : CG S) (hg : g = 35 ∨ g = 99) {a : Nat} (ha : TCl S g a) : zK S a < 18 := by
  obtain ⟨⟨kg, -⟩, ⟨-, -, k3, k4, k5, -⟩, -⟩ := fx_g hC.2.2.1 hg
  rcases ha with e | e | e | e | ⟨i, n, h1, h2⟩
  · rw [e, kg]; decide
  · rw [e, k3]; decide
  · rw [e, k4]; decide
  · rw [e, k5]; decide
  · obtain ⟨-, a2, -, a4⟩ := (gm_of hC hg).1 i n h1
    rcases h2 with e | e <;> rw [e]
    · rw [a2]; decide
    · rw [a4]; decide
/-- node k's address -/
theorem nk_ne (hC : CG S) (hg : g = 35 ∨ g = 99) (k : Nat) {a : Nat} (ha : 1 ≤ a) (hb : a ≤ 108) (h3 : a ≠ g + 3) (h4 : a ≠ g + 4) : nk S (g + 3) (g + 5) k ≠ a ∧ nk S (g + 3) (g + 5) k + 1 ≠ a := by
  rcases nk_or (S := S) (r := g + 3) (b := g + 5) (k := k) with h | h
  · rw [h]; omega
  · have := ((gm_of hC hg).1 k _ h).1
    omega
end CSS
section CSM
variable {S0 S S' : ZS} {g g' k : Nat} {ch : Int → Int} {N p q : Int} {st : PO} {T : TRa} {o : Int32 × ZS}
/-- the remarks of node k are read -/
theorem cs_rk (h : CSt S0 S g g' ch N p st T) (hk : k ≤ tn T) (hf : d_X2_readRemarks 23 (nk S (g + 3) (g + 5) k) S = some o) : (∃ e w, rmkP ch N 2001 (blk ch p) (tR T k) = some (e, w) ∧ o.1.toInt = 1 ∧ CSt S0 o.2 g g' ch N e st (rkT T k w) ∧ FR (fun a => a = 23 ∨ a = nk S (g + 3) (g + 5) k + 1) S o.2) ∨ (rmkP ch N 2001 (blk ch p) (tR T k) = none ∧ o.1.toInt = 0 ∧ CSn S0 o.2 g g') := by
  obtain ⟨c, ⟨hg, hX, hF0⟩, l, hpN, p3, tr, ⟨hw, hl⟩, i5⟩ := id h
  have hgr := gg_g hg
  have nd := trc_nd c hgr tr hk
  have hr := (hw.2.2.1 k).1
  have kk := (nk_nd c hgr k).1
  obtain ⟨-, RP', -⟩ := ok_of (t_d_X2_readRemarks (SZ := S) c.1 (rp_0 S) l.2.1.1 kk) hf
  have hb : (g = 35 ∧ g' = 99) ∨ (g = 99 ∧ g' = 35) := hg
  have hZ : TZ o.2 := RP'.2.1 c.2.1
  have n1 := fun a h1 h2 h3 h4 => (nk_ne c hgr k (a := a) h1 h2 h3 h4).2
  have cg' : ZT o.2 → FR (fun a => a = 23 ∨ a = nk S (g + 3) (g + 5) k + 1) S o.2 → CG o.2 := fun hT' hF => cg_w c hT' hZ hF (by rintro (e | e); omega; exact n1 40 (by decide) (by decide) (by omega) (by omega) e.symm) (by rintro (e | e); omega; exact n1 41 (by decide) (by decide) (by omega) (by omega) e.symm) (by rintro (e | e); omega; exact n1 104 (by decide) (by decide) (by omega) (by omega) e.symm) (by rintro (e | e); omega; exact n1 105 (by decide) (by decide) (by omega) (by omega) e.symm)
  have wk : ∀ a, zK S a < 18 → (a = 23 ∨ a = nk S (g + 3) (g + 5) k + 1) → ¬ KPm S0 g g' a := fun a _ e => e.elim (fun e => km_fix c hg hF0 hX (by omega)) (fun e => by rw [e]; exact km_tc c hg hF0 hX (tc_nk k).2)
  have g5 : ∀ hF : FR (fun a => a = 23 ∨ a = nk S (g + 3) (g + 5) k + 1) S o.2, zI o.2 5 g = zI S 5 g := fun hF => (fr_e hF (fx_l c.2.2.1 (by omega) (by omega)) (by rintro (e | e); omega; exact n1 g (by omega) (by omega) (by omega) (by omega) e.symm)).2.2.1 5
  rcases p_readRemarks l hpN nd (by omega) hf with ⟨e, w, a1, a2, a3, a4, a5, a6⟩ | ⟨a1, a2, ⟨p', a3⟩, a4⟩
  · have tr' : TRc o.2 g (rkT T k w) := trc_rk c hg tr hk (fun a ha hne => fr_e a5 (tc_lt c hgr ha) (by
      rintro (e | e)
      · exact tc_wr c hgr ha (by unfold WRd; omega)
      · exact hne e)) a6.2
    exact Or.inl ⟨e, w, a1, a2, cs_mk h (cg' a4.1 a5) a5 wk (g5 a5) a4 a3.2 tr' (wt_rk hw (by omega)) hl, a5⟩
  · exact Or.inr ⟨a1, a2, cn_mk (cs_n h) (cg' a3.1 a4) a4 wk (g5 a4)⟩
end CSM
end
section
section CMM
variable {S0 S S' : ZS} {g g' k : Nat} {ch : Int → Int} {N p q : Int} {st : PO} {T : TRa} {o : Int32 × ZS}
/-- the marks of node k are read -/
theorem cs_mm (h : CSt S0 S g g' ch N p st T) (hk : k ≤ tn T) (hK : tK T k = []) (hf : f_X2_readMarks 23 (nk S (g + 3) (g + 5) k) S = some o) : (∃ e K, mkP ch p = some (e, K) ∧ o.1.toInt = 1 ∧ CSt S0 o.2 g g' ch N e st (mkT T k K) ∧ FR (fun a => a = 23 ∨ a = nk S (g + 3) (g + 5) k) S o.2) ∨ (mkP ch p = none ∧ o.1.toInt = 0 ∧ CSn S0 o.2 g g') := by
  obtain ⟨c, ⟨hg, hX, hF0⟩, l, hpN, p3, tr, ⟨hw, hl⟩, i5⟩ := id h
  have hgr := gg_g hg
  have kk := (nk_nd c hgr k).1
  have hm : NMk S (nk S (g + 3) (g + 5) k) [] := by rw [← hK]; exact (tr.2.2.2 k hk).2.1
  have hb : (g = 35 ∧ g' = 99) ∨ (g = 99 ∧ g' = 35) := hg
  have n1 := fun a h1 h2 h3 h4 => (nk_ne c hgr k (a := a) h1 h2 h3 h4).1
  have cg' : ZT o.2 → FR (fun a => a = 23 ∨ a = nk S (g + 3) (g + 5) k) S o.2 → LKs S o.2 (nk S (g + 3) (g + 5) k) → CG o.2 := fun hT' hF hL => cg_w c hT' (tz_k c.1 c.2.1 hF (fun a _ e => by
    rcases e with e | e
    · rw [e, l.2.1.1]; exact ⟨by decide, by decide, fun e => absurd e (by decide)⟩
    · rw [e, kk]; exact ⟨by decide, by decide, fun _ => ⟨hL 0 (by decide) (by decide), hL 2 (by decide) (by decide), hL 3 (by decide) (by decide)⟩⟩)) hF (by rintro (e | e); omega; exact n1 40 (by decide) (by decide) (by omega) (by omega) e.symm) (by rintro (e | e); omega; exact n1 41 (by decide) (by decide) (by omega) (by omega) e.symm) (by rintro (e | e); omega; exact n1 104 (by decide) (by decide) (by omega) (by omega) e.symm) (by rintro (e | e); omega; exact n1 105 (by decide) (by decide) (by omega) (by omega) e.symm)
  have wk : ∀ a, zK S a < 18 → (a = 23 ∨ a = nk S (g + 3) (g + 5) k) → ¬ KPm S0 g g' a := fun a _ e => e.elim (fun e => km_fix c hg hF0 hX (by omega)) (fun e => by rw [e]; exact km_tc c hg hF0 hX (tc_nk k).1)
  have g5 : ∀ hF : FR (fun a => a = 23 ∨ a = nk S (g + 3) (g + 5) k) S o.2, zI o.2 5 g = zI S 5 g := fun hF => (fr_e hF (fx_l c.2.2.1 (by omega) (by omega)) (by rintro (e | e); omega; exact n1 g (by omega) (by omega) (by omega) (by omega) e.symm)).2.2.1 5
  rcases p_readMarks l hpN kk hm hf with ⟨e, K, a1, a2, a3, a4, a5, a6, a7, a8⟩ | ⟨a1, a2, ⟨p', a3⟩, a4, a5⟩
  · have tr' : TRc o.2 g (mkT T k K) := trc_mk c hg tr hk (fun a ha hne => fr_e a6 (tc_lt c hgr ha) (by
      rintro (e | e)
      · exact tc_wr c hgr ha (by unfold WRd; omega)
      · exact hne e)) a8 a7
    exact Or.inl ⟨e, K, a1, a2, cs_mk h (cg' a5.1 a6 a8) a6 wk (g5 a6) a5 a4 tr' (wt_mk hw (by omega)) hl, a6⟩
  · exact Or.inr ⟨a1, a2, cn_mk (cs_n h) (cg' a3.1 a4 a5) a4 wk (g5 a4)⟩
end CMM
/-- an open line of the class: its root, its last node, the boards before and behind that one -/
noncomputable def SK1 (S : ZS) (st : PO) (T : TRa) (d ro la : Nat) : Prop := ((zA S 45 d).toInt = (ro : Int) ∧ (zA S 46 d).toInt = (la : Int)) ∧ (ro ≤ la ∧ la ≤ tn T) ∧ BO S (51 + 4 * d) (posT st T la) ∧ (la ≠ ro → BO S (49 + 4 * d) (posT st T (tP T la).toNat))
noncomputable def SKs (S : ZS) (st : PO) (T : TRa) : List (Nat × Nat) → Prop
  | [] => True
  | (ro, la) :: rest => SK1 S st T rest.length ro la ∧ SKs S st T rest
section SKL
variable {S S' : ZS} {st : PO} {T T' : TRa} {W : Nat → Prop} {d ro la : Nat}
theorem sk1_fr (h : SK1 S st T d ro la) (hF : FR W S S') (hW : ¬ W (49 + 4 * d) ∧ ¬ W (50 + 4 * d) ∧ ¬ W (51 + 4 * d) ∧ ¬ W (52 + 4 * d)) (h45 : zA S' 45 d = zA S 45 d) (h46 : zA S' 46 d = zA S 46 d) : SK1 S' st T d ro la := by
  obtain ⟨⟨h1, h2⟩, h3, h4, h5⟩ := h
  have e1 : 49 + 4 * d + 1 = 50 + 4 * d := by omega
  have e2 : 51 + 4 * d + 1 = 52 + 4 * d := by omega
  exact ⟨⟨by rw [h45]; exact h1, by rw [h46]; exact h2⟩, h3, bo_fr h4 hF hW.2.2.1 (by rw [e2]; exact hW.2.2.2), fun hne => bo_fr (h5 hne) hF hW.1 (by rw [e1]; exact hW.2.1)⟩
theorem sk1_T (hw : WT T) (h : SK1 S st T d ro la) (hn : tn T ≤ tn T') (hP : ∀ k, k ≤ tn T → tP T' k = tP T k) (hM : ∀ k, k ≤ tn T → tM T' k = tM T k) : SK1 S st T' d ro la := by
  obtain ⟨h1, h3, h4, h5⟩ := h
  refine ⟨h1, ⟨h3.1, by omega⟩, by rw [posT_c hw hP hM h3.2]; exact h4, fun hne => ?_⟩
  have hb := (hw.2.1 la (by omega) h3.2).1
  rw [hP la h3.2, posT_c hw hP hM (by omega)]
  exact h5 hne
theorem sks_fr {D : Nat} (hF : FR W S S') (hW : ∀ d, d < D → ¬ W (49 + 4 * d) ∧ ¬ W (50 + 4 * d) ∧ ¬ W (51 + 4 * d) ∧ ¬ W (52 + 4 * d)) (hA : ∀ d, d < D → zA S' 45 d = zA S 45 d ∧ zA S' 46 d = zA S 46 d) : ∀ (l : List (Nat × Nat)), l.length ≤ D → SKs S st T l → SKs S' st T l
  | [], _, _ => trivial
  | (ro, la) :: rest, hl, h => by
    have hl' : rest.length + 1 ≤ D := hl
    exact ⟨sk1_fr h.1 hF (hW _ (by omega)) (hA _ (by omega)).1 (hA _ (by omega)).2, sks_fr hF hW hA rest (by omega) h.2⟩
theorem sks_T (hw : WT T) (hn : tn T ≤ tn T') (hP : ∀ k, k ≤ tn T → tP T' k = tP T k) (hM : ∀ k, k ≤ tn T → tM T' k = tM T k) : ∀ (l : List (Nat × Nat)), SKs S st T l → SKs S st T' l
  | [], _ => trivial
  | (_, _) :: rest, h => ⟨sk1_T hw h.1 hn hP hM, sks_T hw hn hP hM rest h.2⟩
/-- a step that touches no stack cell -/
theorem sks_0 (hC : CG S) (hF : FR W S S') (hW : ∀ a, (45 ≤ a ∧ a ≤ 46) ∨ (49 ≤ a ∧ a ≤ 76) → ¬ W a) (l : List (Nat × Nat)) (hl : l.length ≤ 7) (h : SKs S st T l) : SKs S' st T l := by
  have l45 := fx_l (a := 45) hC.2.2.1 (by decide) (by decide)
  have l46 := fx_l (a := 46) hC.2.2.1 (by decide) (by decide)
  have k45 : zK S 45 = 14 := fx_k hC.2.2.1 (by decide) (by decide)
  have k46 : zK S 46 = 14 := fx_k hC.2.2.1 (by decide) (by decide)
  have e45 := (fr_e hF l45 (hW 45 (by omega))).2.2.2.2.2.1 (by rw [k45]; decide)
  have e46 := (fr_e hF l46 (hW 46 (by omega))).2.2.2.2.2.1 (by rw [k46]; decide)
  exact sks_fr (D := 7) hF (fun d hd => ⟨hW _ (by omega), hW _ (by omega), hW _ (by omega), hW _ (by omega)⟩) (fun d _ => ⟨by rw [e45], by rw [e46]⟩) l hl h
/-- the reader of signs and a board -/
theorem srr_of {bb : Nat} {P : PO} (hC : CG S) (hb : BO S bb P) (hG : PGd P) (hn : 0 ≤ onb P ∧ onb P ≤ 99999) (h1 : bb ≠ 26 ∧ bb ≠ 28) : SRr S 24 25 30 31 26 28 bb (om P) (osd P) (ort P) (ops P) (okw P) (okb P) := by
  have hx := hC.2.2.1
  have k := fun a h1 h2 => fx_k (a := a) hx h1 h2
  obtain ⟨⟨k0, p0, k1⟩, hm, h3, h4, h5, i1, i2, h6⟩ := hb
  have hs := hG.1
  have nb : ∀ a, (a = 31 ∨ a = 27 ∨ a = 29) → zK S a = 14 := fun a ha => by
    rcases ha with e | e | e <;> subst e
    · exact k 31 (by decide) (by decide)
    · exact k 27 (by decide) (by decide)
    · exact k 29 (by decide) (by decide)
  have n31 : (31 : Nat) ≠ bb + 1 := fun e => by
    have : bb = 30 := by omega
    rw [this, show zK S 30 = 6 from k 30 (by decide) (by decide)] at k0
    omega
  refine ⟨⟨⟨hC.1, ⟨k 25 (by decide) (by decide), fx_p hx (by decide)⟩, ⟨k 26 (by decide) (by decide), fx_p hx (by decide)⟩, ⟨k0, p0⟩, h1.1, ?_, hm, h3, h4, h5, i1, i2⟩, ⟨fx_p hx (by decide), k 28 (by decide) (by decide), fx_p hx (by decide)⟩, ⟨fun e => h1.2 e.symm, by decide⟩, by omega⟩, ⟨k 24 (by decide) (by decide), fx_p hx (by decide), fx_p hx (by decide), fx_p hx (by decide)⟩, ⟨k 30 (by decide) (by decide), by decide⟩, ⟨k 31 (by decide) (by decide), hx.2.2.2.2.2.2.2.1⟩, ⟨nb 27 (by omega), nb 29 (by omega), k1⟩, by decide, by decide, n31⟩
  unfold BN
  omega
end SKL
end
section
section RMC
variable {S0 S S' : ZS} {g g' d ro la : Nat} {rest : List (Nat × Nat)} {ch : Int → Int} {N p q : Int} {st : PO} {T : TRa} {o : Int32 × ZS} {x1 : Int32}
/-- how the class's move ends -/
noncomputable def MVo (S0 : ZS) (g g' : Nat) (ch : Int → Int) (N : Int) (st : PO) (ro : Nat) (rest : List (Nat × Nat)) (n : Nat) (z : Option (Int × TRa)) (o : Int32 × ZS) : Prop := (∃ e T', z = some (e, T') ∧ o.1.toInt = 1 ∧ CSt S0 o.2 g g' ch N e st T' ∧ SKs o.2 st T' ((ro, n + 1) :: rest)) ∨ (z = none ∧ o.1.toInt = 0 ∧ CSn S0 o.2 g g')
theorem mvo_no {x t0 : Int32} {z : Option (Int × TRa)} (h : CSt S0 S g g' ch N p st T) (hz : z = none) (hx : 0 ≤ x.toInt ∧ x.toInt ≤ 100000) (ht : 0 ≤ t0.toInt ∧ t0.toInt ≤ 10) (hf : f_X2_refuse 23 t0 x S = some o) : MVo S0 g g' ch N st ro rest (tn T) z o := by
  obtain ⟨b1, b2, b3⟩ := lw_no h.2.2.1 ht hx hf
  exact Or.inr ⟨hz, b1, cn_rd (cs_n h) h.2.1.1 h.2.1.2.1 b2.1 b3 (fun a e => by unfold WRd; omega)⟩
theorem rm_37 (h : CSt S0 S g g' ch N q st T) (hs : SKs S st T ((ro, la) :: rest)) (hd : rest.length = d) (hd6 : d ≤ 6) (hx : x1.toInt = (d : Int)) (hnu : nuP ch (onb (posT st T la)) p = some q) (hf : d_X2_readMove_37 23 x1 (51 + 4 * d) S = some o) : MVo S0 g g' ch N st ro rest (tn T) (mvP ch N st T la p) o := by
  obtain ⟨c, ⟨hg, hX, hF0⟩, l, hqN, p3, tr, ⟨hw, hl⟩, i5⟩ := id h
  obtain ⟨hT, ⟨k23, p2, k2⟩, ⟨hc, hN1, hn⟩, hcb, h44, hq0⟩ := id l
  have hgr := gg_g hg
  have hgb : (g = 35 ∧ g' = 99) ∨ (g = 99 ∧ g' = 35) := hg
  have xn : x1.toNatClampNeg = d := cl_n hx
  have h300 := hw.1
  obtain ⟨⟨⟨s1, s2⟩, ⟨s3, s4⟩, s5, s6⟩, srest⟩ := id hs
  rw [hd] at s1 s2 s5 s6
  obtain ⟨pg, nb1, nb2⟩ := lt_pg hw hl la s4
  unfold d_X2_readMove_37 at hf
  obtain ⟨-, hf⟩ := m_chkE hf
  replace hf := m_calY hf p2
  obtain ⟨-, hf⟩ := m_chkE hf
  obtain ⟨-, hf⟩ := m_chkE hf
  obtain ⟨r2, h_r2, hf⟩ := m_calR hf (fun _ h => ro_X6_at h)
  dsimp only at hf
  have p_r2 := pc_X6_at h_r2
  dsimp only at p_r2
  rw [hc, h44] at p_r2
  obtain ⟨-, hf⟩ := m_chkE hf
  obtain ⟨r3, h_r3, hf⟩ := m_calR hf (fun _ h => ro_X11_isLetter h)
  dsimp only at hf
  have p_r3 := pc_X11_isLetter h_r3
  dsimp only at p_r3
  rw [p_r2] at p_r3
  obtain ⟨-, hf⟩ := m_chkE hf
  rcases m_ifE hf with ⟨c1, hf⟩ | ⟨c1, hf⟩
  · skip
    replace c1 := ti_eqP (a := r3) (b := (0 : Int32)) c1 rfl (show (0 : Int32).toInt = 0 from rfl)
    obtain ⟨-, hf⟩ := m_chkE hf
    obtain ⟨-, hf⟩ := m_chkE hf
    obtain ⟨⟨r42, S42c⟩, h_r42, hf⟩ := m_calE hf
    dsimp only at hf
    have gg := mvo_no (ro := ro) (rest := rest) (t0 := 1) h (mv_2 (N := N) hnu (fun g => by have := p_r3.2.2 g; omega)) (by omega) (by decide) h_r42
    obtain ⟨-, hf⟩ := m_chkE hf
    obtain ⟨-, hf⟩ := m_chkE hf
    cases hf
    try dsimp only
    exact gg
  · skip
    replace c1 := ti_eqN (a := r3) (b := (0 : Int32)) c1 rfl (show (0 : Int32).toInt = 0 from rfl)
    obtain ⟨-, hf⟩ := m_chkE hf
    obtain ⟨-, hf⟩ := m_chkE hf
    obtain ⟨⟨r4, S4c⟩, h_r4, hf⟩ := m_calE hf
    dsimp only at hf
    have hL := p_r3.2.1 (by omega)
    obtain ⟨g1, L4, F4, g4⟩ := p_skipSigns l hqN h_r4
    dsimp only at L4 F4
    have C4 := cs_rd h L4 g4 F4 (fun a e => by unfold WRd; omega)
    have SK4 := sks_0 c F4 (fun a ha e => by omega) _ (by show rest.length + 1 ≤ 7; omega) hs
    have p02 : zP S4c 0 23 = some 24 := fx_p C4.1.2.2.1 (by decide)
    have p22 := L4.2.1.2.1
    obtain ⟨-, hf⟩ := m_chkE hf
    obtain ⟨-, hf⟩ := m_chkE hf
    replace hf := m_calY hf p02
    obtain ⟨-, hf⟩ := m_chkE hf
    replace hf := m_calY hf p22
    obtain ⟨-, hf⟩ := m_chkE hf
    obtain ⟨-, hf⟩ := m_chkE hf
    obtain ⟨⟨r8, S9⟩, h_r8, hf⟩ := m_cal2E hf
    dsimp only at hf
    obtain ⟨⟨-, -, b4, -⟩, -⟩ := id SK4
    rw [hd] at b4
    have sr := srr_of C4.1 b4 pg ⟨by omega, by omega⟩ (by omega)
    have i44 := L4.2.2.2.2.1
    have i44b := L4.2.2.2.2.2
    obtain ⟨-, m2, m3⟩ := p_matched (ko := oko (posT st T la)) sr L4.2.1.2.2 (by decide) L4.2.2.1.1 hcb (by omega) (by omega) rfl pg.2.1 pg.2.2.2.2.2.2.1 pg.1 h_r8
    dsimp only at m2 m3
    rw [h44, i44] at m3
    obtain ⟨v1, v2⟩ := sgV_c pg (fun i i1 i2 e => by
      have := g1.2.1 i i1 i2
      rw [e] at this
      unfold isSg isL isD at this
      omega) m3
    have F9 := fr_mt m2 (fx_k C4.1.2.2.1 (by decide) (by decide))
    have T9 : ZT S9 := (ok_of (t_d_X8_matched (SZ := S4c) C4.1.1 (rp_0 S4c) (fx_k C4.1.2.2.1 (by decide) (by decide)) b4.1.1 L4.2.1.2.2 (by decide) (by omega) (by omega)) h_r8).1
    have W9 : ∀ a, (a = 24 ∨ a = 30 ∨ a = 26 ∨ a = 28 ∨ a = 26 + 1 ∨ a = 28 + 1 ∨ a = 31) → WRd a := fun a e => by unfold WRd; omega
    have L9 : LW S9 ch N (sgk ch q) := lw_nd L4 T9 F9 (by omega) (by omega)
    have C9 := cs_rd C4 L9 g4 F9 W9
    have SK9 := sks_0 C4.1 F9 (fun a ha e => by omega) _ (by show rest.length + 1 ≤ 7; omega) SK4
    have p39 := C9.2.2.2.2.1
    have p99 : zP S9 9 23 = some 46 := fx_p C9.1.2.2.1 (by decide)
    rcases m_ifE hf with ⟨c2, hf⟩ | ⟨c2, hf⟩
    · skip
      replace c2 := ti_leP (a := (0 : Int32)) (b := r8) c2 (show (0 : Int32).toInt = 0 from rfl) rfl
      obtain ⟨-, hf⟩ := m_chkE hf
      replace hf := m_calY hf p39
      obtain ⟨-, hf⟩ := m_chkE hf
      replace hf := m_calY hf p99
      obtain ⟨-, hf⟩ := m_chkE hf
      obtain ⟨-, hf⟩ := m_chkE hf
      obtain ⟨v14, e_v14, hf⟩ := m_bndE hf
      obtain ⟨⟨⟨-, z2⟩, -⟩, -⟩ := id SK9
      rw [hd] at z2
      have t14 : v14.toInt = (la : Int) := by rw [e_v14, xn]; exact z2
      obtain ⟨-, hf⟩ := m_chkE hf
      obtain ⟨r15, h_r15, hf⟩ := m_calR hf (fun _ h => ro_X1_childWith h)
      dsimp only at hf
      have q15 := p_childWith C9.1 hgr C9.2.2.2.2.2.1 h300 t14 s4 h_r15
      dsimp only at q15
      rw [v1] at q15
      have mb := (v2 (by omega)).1
      rw [v1] at mb
      obtain ⟨-, hf⟩ := m_chkE hf
      rcases m_ifE hf with ⟨c3, hf⟩ | ⟨c3, hf⟩
      · skip
        replace c3 := ti_eqP (a := r15) (b := (-1 : Int32)) c3 rfl (show (-1 : Int32).toInt = -1 from rfl)
        obtain ⟨-, hf⟩ := m_chkE hf
        replace hf := m_calY hf p39
        obtain ⟨-, hf⟩ := m_chkE hf
        replace hf := m_calY hf p99
        obtain ⟨-, hf⟩ := m_chkE hf
        obtain ⟨-, hf⟩ := m_chkE hf
        obtain ⟨v18, e_v18, hf⟩ := m_bndE hf
        have t18 : v18.toInt = (la : Int) := by rw [e_v18, xn]; exact z2
        obtain ⟨-, hf⟩ := m_chkE hf
        obtain ⟨⟨r20, S21⟩, h_r20, hf⟩ := m_cal2E hf
        dsimp only at hf
        have g20 := p_grow C9.1 hg hw C9.2.2.2.2.2.1 t18 s4 h_r20
        dsimp only at g20
        rw [v1] at g20
        rcases m_ifE hf with ⟨c4, hf⟩ | ⟨c4, hf⟩
        · skip
          replace c4 := ti_eqP (a := r20) (b := (-1 : Int32)) c4 rfl (show (-1 : Int32).toInt = -1 from rfl)
          obtain ⟨-, hf⟩ := m_chkE hf
          obtain ⟨⟨r40, S40c⟩, h_r40, hf⟩ := m_calE hf
          dsimp only at hf
          have n20 : S21 = S9 ∧ 300 ≤ tn T := by
            rcases g20 with ⟨-, a, b⟩ | ⟨-, a, -⟩
            · exact ⟨a, b⟩
            · omega
          rw [n20.1] at h_r40
          have gg := mvo_no (ro := ro) (rest := rest) (t0 := 8) C9 (mv_5 (N := N) hnu n20.2) (by omega) (by decide) h_r40
          obtain ⟨-, hf⟩ := m_chkE hf
          obtain ⟨-, hf⟩ := m_chkE hf
          cases hf
          try dsimp only
          exact gg
        · skip
          replace c4 := ti_eqN (a := r20) (b := (-1 : Int32)) c4 rfl (show (-1 : Int32).toInt = -1 from rfl)
          obtain ⟨lt, t20, C21, tr21, F21, i21⟩ : tn T < 300 ∧ r20.toInt = ((tn T + 1 : Nat) : Int) ∧ CG S21 ∧ TRc S21 g (grT T la (sgV (posT st T la) ch q (sgk ch q))) ∧ FR (TCl S9 g) S9 S21 ∧ ∀ j, j ≠ 3 → zI S21 j g = zI S9 j g := by
            rcases g20 with ⟨a, -⟩ | a
            · omega
            · exact a
          have vLG : LGo (posT st T la) (sgV (posT st T la) ch q (sgk ch q)) := by rw [← v1]; exact v2 (by omega)
          have wT := wt_gr hw s4 lt mb
          have lT := lt_gr hw hl s4 vLG
          have i5g := i21 5 (by decide)
          have L21 : LW S21 ch N (sgk ch q) := lw_nd L9 C21.1 F21 (tc_no C9.1 hgr (by decide) (by omega) (by omega) (by omega) (by omega)) (tc_no C9.1 hgr (by decide) (by omega) (by omega) (by omega) (by omega))
          have CS21 := cs_mk C9 C21 F21 (fun a _ ha => km_tc C9.1 hg C9.2.1.2.2 hX ha) i5g L21 g4 tr21 wT lT
          have SK21 := sks_T (T' := grT T la (sgV (posT st T la) ch q (sgk ch q))) hw (by show tn T ≤ tn T + 1; omega) (fun k hk => if_neg (show ¬ k = tn T + 1 by omega)) (fun k hk => if_neg (show ¬ k = tn T + 1 by omega)) _ (sks_0 C9.1 F21 (fun a ha => tc_no C9.1 hgr (by omega) (by omega) (by omega) (by omega) (by omega)) _ (by show rest.length + 1 ≤ 7; omega) SK9)
          have p921 : zP S21 9 23 = some 46 := fx_p C21.2.2.1 (by decide)
          have p321 : zP S21 3 23 = some g := CS21.2.2.2.2.1
          obtain ⟨⟨⟨w1, w2⟩, -, w5, -⟩, wrest⟩ := id SK21
          rw [hd] at w1 w2 w5
          obtain ⟨-, hf⟩ := m_chkE hf
          replace hf := m_calY hf p921
          obtain ⟨-, hf⟩ := m_chkE hf
          obtain ⟨-, hf⟩ := m_chkE hf
          obtain ⟨S25, e_S25, hf⟩ := m_bndE hf
          rw [xn] at e_S25
          have k46 : zK S21 46 = 14 := fx_k C21.2.2.1 (by decide) (by decide)
          have T25 : ZT S25 := e_S25.symm ▸ zt_A (a := 46) C21.1 k46
          have F25 : FR (fun a => a = 46) S21 S25 := fr_A C21.1 k46 e_S25
          have L25 : LW S25 ch N (sgk ch q) := lw_nd L21 T25 F25 (by decide) (by decide)
          have CS25 := cs_rd CS21 L25 g4 F25 (fun a e => by unfold WRd; omega)
          have a46 : ∀ i, i ≠ d → zA S25 46 i = zA S21 46 i := fun i hi => by
            rw [e_S25]
            show va_up (zA S21) 46 (upd (zA S21 46) d r20) 46 i = _
            rw [va_up_self, upd_ne hi]
          have a46d : zA S25 46 d = r20 := by
            rw [e_S25]
            show va_up (zA S21) 46 (upd (zA S21 46) d r20) 46 d = _
            rw [va_up_self, upd_self]
          have a45 : zA S25 45 = zA S21 45 := by
            rw [e_S25]
            show va_up (zA S21) 46 (upd (zA S21 46) d r20) 45 = _
            exact va_up_ne _ _ (by decide)
          have r25 := sks_fr (D := d) F25 (fun i hi => ⟨by omega, by omega, by omega, by omega⟩) (fun i hi => ⟨by rw [a45], a46 i (by omega)⟩) rest (by omega) wrest
          have b25 := bo_fr w5 F25 (by omega) (by omega)
          have p1025 : zP S25 10 23 = some 47 := fx_p CS25.1.2.2.1 (by decide)
          have z47 : zB S25 47 x1.toNatClampNeg = some (49+4*d) := by rw [xn]; exact (CS25.1.2.2.1.2.2.2.2.1 d (by omega)).1
          obtain ⟨-, hf⟩ := m_chkE hf
          replace hf := m_calY hf p1025
          obtain ⟨-, hf⟩ := m_chkE hf
          obtain ⟨-, hf⟩ := m_chkE hf
          replace hf := m_calY hf z47
          obtain ⟨-, hf⟩ := m_chkE hf
          obtain ⟨⟨r28, S28c⟩, h_r28, hf⟩ := m_calE hf
          dsimp only at hf
          have kb := fx_bk (2 * d) (by omega)
          have e49 : 49 + 2 * (2 * d) = 49 + 4 * d := by omega
          have e50 : 50 + 2 * (2 * d) = 50 + 4 * d := by omega
          rw [e49, e50] at kb
          have kb1 : zK S25 (49 + 4 * d) = 0 := (fx_k CS25.1.2.2.1 (by omega) (by omega)).trans kb.1
          have kb2 : zK S25 (49 + 4 * d + 1) = 14 := by
            rw [show 49 + 4 * d + 1 = 50 + 4 * d by omega]
            exact (fx_k CS25.1.2.2.1 (by omega) (by omega)).trans kb.2
          have pb : zP S25 0 (49 + 4 * d) = some (49 + 4 * d + 1) := by
            have := CS25.1.2.2.1.2.2.1 (2 * d) (by omega)
            rw [e49, e50] at this
            rw [this, show 49 + 4 * d + 1 = 50 + 4 * d by omega]
          obtain ⟨T28, F28, B28⟩ := bo_copy T25 kb1 pb kb2 b25 h_r28
          dsimp only at T28 F28 B28
          have L28 : LW S28c ch N (sgk ch q) := lw_nd L25 T28 F28 (by omega) (by omega)
          have CS28 := cs_rd CS25 L28 g4 F28 (fun a e => by unfold WRd; omega)
          have e45 : zA S28c 45 = zA S25 45 := (fr_e F28 (fx_l CS25.1.2.2.1 (by decide) (by decide)) (by omega)).2.2.2.2.2.1 (by rw [show zK S25 45 = 14 from fx_k CS25.1.2.2.1 (by decide) (by decide)]; decide)
          have e46 : zA S28c 46 = zA S25 46 := (fr_e F28 (fx_l CS25.1.2.2.1 (by decide) (by decide)) (by omega)).2.2.2.2.2.1 (by rw [show zK S25 46 = 14 from fx_k CS25.1.2.2.1 (by decide) (by decide)]; decide)
          have r28 := sks_fr (D := d) F28 (fun i hi => ⟨by omega, by omega, by omega, by omega⟩) (fun i hi => ⟨by rw [e45], by rw [e46]⟩) rest (by omega) r25
          have b28 := bo_fr b25 F28 (by omega) (by omega)
          obtain ⟨-, hf⟩ := m_chkE hf
          obtain ⟨-, hf⟩ := m_chkE hf
          obtain ⟨⟨r29, S29c⟩, h_r29, hf⟩ := m_calE hf
          dsimp only at hf
          have pgr : posT st (grT T la (sgV (posT st T la) ch q (sgk ch q))) la = posT st T la := posT_gr hw s4
          rw [pgr] at b28 B28
          obtain ⟨T29, F29, B29⟩ := bo_play T28 b28 pg (by rw [v1]; exact vLG) ⟨by omega, by omega⟩ h_r29
          dsimp only at T29 F29 B29
          rw [v1] at B29
          have L29 : LW S29c ch N (sgk ch q) := lw_nd L28 T29 F29 (by omega) (by omega)
          have CS29 := cs_rd CS28 L29 g4 F29 (fun a e => by unfold WRd; omega)
          have f45 : zA S29c 45 = zA S28c 45 := (fr_e F29 (fx_l CS28.1.2.2.1 (by decide) (by decide)) (by omega)).2.2.2.2.2.1 (by rw [show zK S28c 45 = 14 from fx_k CS28.1.2.2.1 (by decide) (by decide)]; decide)
          have f46 : zA S29c 46 = zA S28c 46 := (fr_e F29 (fx_l CS28.1.2.2.1 (by decide) (by decide)) (by omega)).2.2.2.2.2.1 (by rw [show zK S28c 46 = 14 from fx_k CS28.1.2.2.1 (by decide) (by decide)]; decide)
          have r29 := sks_fr (D := d) F29 (fun i hi => ⟨by omega, by omega, by omega, by omega⟩) (fun i hi => ⟨by rw [f45], by rw [f46]⟩) rest (by omega) r28
          have B49 := bo_fr B28 F29 (by omega) (by omega)
          have eP : tP (grT T la (sgV (posT st T la) ch q (sgk ch q))) (tn T + 1) = (la : Int) := if_pos rfl
          have SK29 : SKs S29c st (grT T la (sgV (posT st T la) ch q (sgk ch q))) ((ro, tn T + 1) :: rest) := by
            refine ⟨?_, r29⟩
            rw [hd]
            refine ⟨⟨by rw [f45, e45, a45]; exact w1, by rw [f46, e46, a46d]; exact t20⟩, ⟨by omega, Nat.le_refl _⟩, by rw [posT_g1 hw s4 lt mb]; exact B29, fun _ => ?_⟩
            rw [eP, Int.toNat_natCast, pgr]
            exact B49
          have p329 := CS29.2.2.2.2.1
          obtain ⟨-, hf⟩ := m_chkE hf
          obtain ⟨-, hf⟩ := m_chkE hf
          replace hf := m_calY hf p329
          obtain ⟨-, hf⟩ := m_chkE hf
          obtain ⟨r31, h_r31, hf⟩ := m_calR hf (fun _ h => ro_X1_at h)
          dsimp only at hf
          have q31 : r31 = nk S29c (g + 3) (g + 5) (tn T + 1) := by
            have := (p_at CS29.1 hgr CS29.2.2.2.2.2.1 (by omega) (by show r20.toInt ≤ ((tn T + 1 : Nat) : Int); omega) h_r31).2
            rw [t20] at this
            exact this
          obtain ⟨-, hf⟩ := m_chkE hf
          obtain ⟨-, hf⟩ := m_chkE hf
          obtain ⟨⟨r32, S32c⟩, h_r32, hf⟩ := m_calE hf
          dsimp only at hf
          rw [q31] at h_r32
          have g32 := cs_mm CS29 (Nat.le_refl (tn T + 1)) (show (if tn T + 1 = tn T + 1 then [] else tK T (tn T + 1)) = [] from if_pos rfl) h_r32
          dsimp only at g32
          have md := mv_6 (N := N) hnu hL (show ¬ sgV (posT st T la) ch q (sgk ch q) < 0 by omega) (by omega) (by omega)
          obtain ⟨-, hf⟩ := m_chkE hf
          rcases m_ifE hf with ⟨c5, hf⟩ | ⟨c5, hf⟩
          · skip
            replace c5 := ti_eqP (a := r32) (b := (0 : Int32)) c5 rfl (show (0 : Int32).toInt = 0 from rfl)
            unfold d_X2_readMove_233 d_X2_readMove_234 at hf
            obtain ⟨-, hf⟩ := m_chkE hf
            cases hf
            rcases g32 with ⟨e, K, a1, a2, -⟩ | ⟨a1, a2, a3⟩
            · omega
            · rw [md, a1]
              exact Or.inr ⟨rfl, rfl, a3⟩
          · skip
            replace c5 := ti_eqN (a := r32) (b := (0 : Int32)) c5 rfl (show (0 : Int32).toInt = 0 from rfl)
            obtain ⟨e2, K, a1, CS32, F32⟩ : ∃ e K, mkP ch (sgk ch q) = some (e, K) ∧ CSt S0 S32c g g' ch N e st (mkT (grT T la (sgV (posT st T la) ch q (sgk ch q))) (tn T + 1) K) ∧ FR (fun a => a = 23 ∨ a = nk S29c (g + 3) (g + 5) (tn T + 1)) S29c S32c := by
              rcases g32 with ⟨e, K, a1, -, a3, a4⟩ | ⟨-, a2, -⟩
              · exact ⟨e, K, a1, a3, a4⟩
              · omega
            have nn := fun a h1 h2 h3 h4 => (nk_ne CS29.1 hgr (tn T + 1) (a := a) h1 h2 h3 h4).1
            have SK32 := sks_T (T' := mkT (grT T la (sgV (posT st T la) ch q (sgk ch q))) (tn T + 1) K) wT (Nat.le_refl _) (fun _ _ => rfl) (fun _ _ => rfl) _ (sks_0 CS29.1 F32 (fun a ha e => by
              rcases e with e | e
              · omega
              · exact nn a (by omega) (by omega) (by omega) (by omega) e.symm) _ (by show rest.length + 1 ≤ 7; omega) SK29)
            have p332 := CS32.2.2.2.2.1
            obtain ⟨-, hf⟩ := m_chkE hf
            replace hf := m_calY hf p332
            obtain ⟨-, hf⟩ := m_chkE hf
            obtain ⟨r34, h_r34, hf⟩ := m_calR hf (fun _ h => ro_X1_at h)
            dsimp only at hf
            have q34 : r34 = nk S32c (g + 3) (g + 5) (tn T + 1) := by
              have := (p_at CS32.1 hgr CS32.2.2.2.2.2.1 (by omega) (by show r20.toInt ≤ ((tn T + 1 : Nat) : Int); omega) h_r34).2
              rw [t20] at this
              exact this
            obtain ⟨-, hf⟩ := m_chkE hf
            obtain ⟨-, hf⟩ := m_chkE hf
            obtain ⟨⟨r36, S37⟩, h_r36, hf⟩ := m_cal2E hf
            dsimp only at hf
            rw [q34] at h_r36
            have g36 := cs_rk CS32 (Nat.le_refl (tn T + 1)) h_r36
            dsimp only at g36
            have eR : tR (mkT (grT T la (sgV (posT st T la) ch q (sgk ch q))) (tn T + 1) K) (tn T + 1) = [] := if_pos rfl
            rw [eR] at g36
            rcases m_ifE hf with ⟨c6, hf⟩ | ⟨c6, hf⟩
            · skip
              replace c6 := ti_eqP (a := r36) (b := (0 : Int32)) c6 rfl (show (0 : Int32).toInt = 0 from rfl)
              unfold d_X2_readMove_233 d_X2_readMove_234 at hf
              obtain ⟨-, hf⟩ := m_chkE hf
              cases hf
              rcases g36 with ⟨e, w, b1, b2, -⟩ | ⟨b1, b2, b3⟩
              · omega
              · rw [md, a1]
                show MVo S0 g g' ch N st ro rest (tn T) (match rmkP ch N 2001 (blk ch e2) [] with | none => none | some (e3, w) => some (e3, _)) _
                rw [b1]
                exact Or.inr ⟨rfl, rfl, b3⟩
            · skip
              replace c6 := ti_eqN (a := r36) (b := (0 : Int32)) c6 rfl (show (0 : Int32).toInt = 0 from rfl)
              unfold d_X2_readMove_234 at hf
              obtain ⟨-, hf⟩ := m_chkE hf
              cases hf
              obtain ⟨e3, w, b1, CS37, F37⟩ : ∃ e w, rmkP ch N 2001 (blk ch e2) [] = some (e, w) ∧ CSt S0 S37 g g' ch N e st (rkT (mkT (grT T la (sgV (posT st T la) ch q (sgk ch q))) (tn T + 1) K) (tn T + 1) w) ∧ FR (fun a => a = 23 ∨ a = nk S32c (g + 3) (g + 5) (tn T + 1) + 1) S32c S37 := by
                rcases g36 with ⟨e, w, b1, -, b3, b4⟩ | ⟨-, b2, -⟩
                · exact ⟨e, w, b1, b3, b4⟩
                · omega
              have nn2 := fun a h1 h2 h3 h4 => (nk_ne CS32.1 hgr (tn T + 1) (a := a) h1 h2 h3 h4).2
              have SK37 := sks_T (T' := rkT (mkT (grT T la (sgV (posT st T la) ch q (sgk ch q))) (tn T + 1) K) (tn T + 1) w) CS32.2.2.2.2.2.2.1.1 (Nat.le_refl _) (fun _ _ => rfl) (fun _ _ => rfl) _ (sks_0 CS32.1 F37 (fun a ha e => by
                rcases e with e | e
                · omega
                · exact nn2 a (by omega) (by omega) (by omega) (by omega) e.symm) _ (by show rest.length + 1 ≤ 7; omega) SK32)
              rw [md, a1]
              show MVo S0 g g' ch N st ro rest (tn T) (match rmkP ch N 2001 (blk ch e2) [] with | none => none | some (e3, w) => some (e3, rkT (mkT (grT T la (sgV (posT st T la) ch q (sgk ch q))) (tn T + 1) K) (tn T + 1) w)) _
              rw [b1]
              exact Or.inl ⟨e3, _, rfl, rfl, CS37, SK37⟩
      · skip
        replace c3 := ti_eqN (a := r15) (b := (-1 : Int32)) c3 rfl (show (-1 : Int32).toInt = -1 from rfl)
        obtain ⟨-, hf⟩ := m_chkE hf
        obtain ⟨⟨r41, S41c⟩, h_r41, hf⟩ := m_calE hf
        dsimp only at hf
        have gg := mvo_no (ro := ro) (rest := rest) (t0 := 6) C9 (mv_4 (N := N) hnu (by omega)) (by omega) (by decide) h_r41
        obtain ⟨-, hf⟩ := m_chkE hf
        obtain ⟨-, hf⟩ := m_chkE hf
        cases hf
        try dsimp only
        exact gg
    · skip
      replace c2 := ti_leN (a := (0 : Int32)) (b := r8) c2 (show (0 : Int32).toInt = 0 from rfl) rfl
      rcases m_ifE hf with ⟨c7, hf⟩ | ⟨c7, hf⟩
      · skip
        replace c7 := ti_eqP (a := r8) (b := (-2 : Int32)) c7 rfl (show (-2 : Int32).toInt = -2 from rfl)
        unfold d_X2_readMove_110 at hf
        obtain ⟨-, hf⟩ := m_chkE hf
        obtain ⟨⟨r9, S10⟩, h_r9, hf⟩ := m_calE hf
        dsimp only at hf
        obtain ⟨-, hf⟩ := m_chkE hf
        obtain ⟨-, hf⟩ := m_chkE hf
        cases hf
        exact mvo_no (t0 := 5) C9 (mv_3 hnu (by omega)) (by omega) (by decide) h_r9
      · skip
        replace c7 := ti_eqN (a := r8) (b := (-2 : Int32)) c7 rfl (show (-2 : Int32).toInt = -2 from rfl)
        unfold d_X2_readMove_110 at hf
        obtain ⟨-, hf⟩ := m_chkE hf
        obtain ⟨⟨r9, S10⟩, h_r9, hf⟩ := m_calE hf
        dsimp only at hf
        obtain ⟨-, hf⟩ := m_chkE hf
        obtain ⟨-, hf⟩ := m_chkE hf
        cases hf
        exact mvo_no (t0 := 4) C9 (mv_3 hnu (by omega)) (by omega) (by decide) h_r9
/-- the class reads a move -/
theorem p_readMove (h : CSt S0 S g g' ch N p st T) (hs : SKs S st T ((ro, la) :: rest)) (hd : rest.length = d) (hd6 : d ≤ 6) (hx : x1.toInt = (d : Int)) (hf : d_X2_readMove 23 x1 S = some o) : MVo S0 g g' ch N st ro rest (tn T) (mvP ch N st T la p) o := by
  have hf : d_X2_readMove_0 23 x1 S = some o := hf
  obtain ⟨c, ⟨hg, hX, hF0⟩, l, hpN, p3, tr, ⟨hw, hl⟩, i5⟩ := id h
  obtain ⟨hT, ⟨k23, p2, k2⟩, ⟨hc, hN1, hn⟩, hcb, h44, hq0⟩ := id l
  have xn : x1.toNatClampNeg = d := cl_n hx
  obtain ⟨⟨⟨s1, s2⟩, ⟨s3, s4⟩, s5, s6⟩, srest⟩ := id hs
  rw [hd] at s1 s2 s5 s6
  obtain ⟨pg, nb1, nb2⟩ := lt_pg hw hl la s4
  have h300 := hw.1
  have p11 : zP S 11 23 = some 48 := fx_p c.2.2.1 (by decide)
  have z48 : zB S 48 x1.toNatClampNeg = some (51+4*d) := by rw [xn]; exact (c.2.2.1.2.2.2.2.1 d (by omega)).2.1
  have i6 := s5.2.2.2.2.2.2.2
  unfold d_X2_readMove_0 at hf
  obtain ⟨-, hf⟩ := m_chkE hf
  replace hf := m_calY hf p11
  obtain ⟨-, hf⟩ := m_chkE hf
  obtain ⟨-, hf⟩ := m_chkE hf
  replace hf := m_calY hf z48
  obtain ⟨-, hf⟩ := m_chkE hf
  replace hf := m_calY hf p2
  obtain ⟨-, hf⟩ := m_chkE hf
  obtain ⟨-, hf⟩ := m_chkE hf
  obtain ⟨r4, h_r4, hf⟩ := m_calR hf (fun _ h => ro_X6_at h)
  dsimp only at hf
  have p_r4 := pc_X6_at h_r4
  dsimp only at p_r4
  rw [hc, h44] at p_r4
  obtain ⟨-, hf⟩ := m_chkE hf
  obtain ⟨r5, h_r5, hf⟩ := m_calR hf (fun _ h => ro_X11_isDigit h)
  dsimp only at hf
  have p_r5 := pc_X11_isDigit h_r5
  dsimp only at p_r5
  rw [p_r4] at p_r5
  unfold isD at p_r5
  obtain ⟨-, hf⟩ := m_chkE hf
  rcases m_ifE hf with ⟨c1, hf⟩ | ⟨c1, hf⟩
  · skip
    replace c1 := ti_eqP (a := r5) (b := (0 : Int32)) c1 rfl (show (0 : Int32).toInt = 0 from rfl)
    exact rm_37 h hs hd hd6 hx (if_neg (fun g => by have := p_r5.2.2 g; omega)) hf
  · skip
    replace c1 := ti_eqN (a := r5) (b := (0 : Int32)) c1 rfl (show (0 : Int32).toInt = 0 from rfl)
    obtain ⟨-, hf⟩ := m_chkE hf
    obtain ⟨-, hf⟩ := m_chkE hf
    obtain ⟨⟨r6, S6c⟩, h_r6, hf⟩ := m_calE hf
    dsimp only at hf
    have g6 := p_readNumber l hpN (p_r5.2.1 (by omega)) h_r6
    dsimp only at g6
    rw [i6] at g6
    obtain ⟨-, hf⟩ := m_chkE hf
    rcases m_ifE hf with ⟨c2, hf⟩ | ⟨c2, hf⟩
    · skip
      replace c2 := ti_eqP (a := r6) (b := (0 : Int32)) c2 rfl (show (0 : Int32).toInt = 0 from rfl)
      obtain ⟨-, hf⟩ := m_chkE hf
      cases hf
      try dsimp only
      rcases g6 with ⟨a1, -⟩ | ⟨a1, a2, ⟨p', a3⟩, a4⟩
      · omega
      · exact Or.inr ⟨mv_1 a2, rfl, cn_rd (cs_n h) hg hX a3.1 a4 (fun a e => by unfold WRd; omega)⟩
    · skip
      replace c2 := ti_eqN (a := r6) (b := (0 : Int32)) c2 rfl (show (0 : Int32).toInt = 0 from rfl)
      obtain ⟨e, a1, a2, a3, a4⟩ : ∃ e, nuP ch (onb (posT st T la)) p = some e ∧ LW S6c ch N e ∧ FR (fun a => a = 23) S S6c ∧ e ≤ N := by
        rcases g6 with ⟨-, e, a1, a2, a3, a4⟩ | ⟨a1, -⟩
        · exact ⟨e, a1, a2, a3, a4⟩
        · omega
      exact rm_37 (cs_rd h a2 a4 a3 (fun a e => by unfold WRd; omega)) (sks_0 c a3 (fun a ha e => by omega) _ (by show rest.length + 1 ≤ 7; omega) hs) hd hd6 hx a1 hf
end RMC
end
section
/-- which sign tells a result -/
noncomputable def rsS (r : Int) : Nat := if r = 1 then 3 else if r = 2 then 4 else if r = 3 then 5 else 6
theorem sL3 : strL 3 = [49, 45, 48] := by decide
theorem sL4 : strL 4 = [48, 45, 49] := by decide
theorem sL5 : strL 5 = [49, 47, 50, 45, 49, 47, 50] := by decide
theorem sL6 : strL 6 = [42] := by decide
section RSC
variable {ch : Int → Int} {N p : Int} {S : ZS} {x1 : Int32}
theorem hl_3 (hp : 0 ≤ p) (hz : ∀ i, N ≤ i → ch i = 0) : HLD ch N 3 p ↔ ch p = 49 ∧ ch (p + 1) = 45 ∧ ch (p + 2) = 48 := by
  unfold HLD
  rw [sL3]
  constructor
  · rintro ⟨-, -, h⟩
    have h0 := h 0 (by decide) (by decide)
    have h1 := h 1 (by decide) (by decide)
    have h2 := h 2 (by decide) (by decide)
    rw [Int.add_zero] at h0
    exact ⟨h0, h1, h2⟩
  · rintro ⟨h0, h1, h2⟩
    refine ⟨hp, ?_, fun i i0 i1 => ?_⟩
    · show p + 3 ≤ N
      by_cases c : p + 3 ≤ N
      · exact c
      · have := hz (p + 2) (by omega); omega
    · have i1' : i < 3 := i1
      rcases (by omega : i = 0 ∨ i = 1 ∨ i = 2) with e | e | e <;> subst e
      · rw [Int.add_zero]; exact h0
      · exact h1
      · exact h2
theorem hl_4 (hp : 0 ≤ p) (hz : ∀ i, N ≤ i → ch i = 0) : HLD ch N 4 p ↔ ch p = 48 ∧ ch (p + 1) = 45 ∧ ch (p + 2) = 49 := by
  unfold HLD
  rw [sL4]
  constructor
  · rintro ⟨-, -, h⟩
    have h0 := h 0 (by decide) (by decide)
    have h1 := h 1 (by decide) (by decide)
    have h2 := h 2 (by decide) (by decide)
    rw [Int.add_zero] at h0
    exact ⟨h0, h1, h2⟩
  · rintro ⟨h0, h1, h2⟩
    refine ⟨hp, ?_, fun i i0 i1 => ?_⟩
    · show p + 3 ≤ N
      by_cases c : p + 3 ≤ N
      · exact c
      · have := hz (p + 2) (by omega); omega
    · have i1' : i < 3 := i1
      rcases (by omega : i = 0 ∨ i = 1 ∨ i = 2) with e | e | e <;> subst e
      · rw [Int.add_zero]; exact h0
      · exact h1
      · exact h2
theorem hl_6 (hp : 0 ≤ p) (hz : ∀ i, N ≤ i → ch i = 0) : HLD ch N 6 p ↔ ch p = 42 := by
  unfold HLD
  rw [sL6]
  constructor
  · rintro ⟨-, -, h⟩
    have h0 := h 0 (by decide) (by decide)
    rw [Int.add_zero] at h0
    exact h0
  · intro h0
    refine ⟨hp, ?_, fun i i0 i1 => ?_⟩
    · show p + 1 ≤ N
      by_cases c : p + 1 ≤ N
      · exact c
      · have := hz p (by omega); omega
    · have i1' : i < 1 := i1
      have e : i = 0 := by omega
      subst e
      rw [Int.add_zero]; exact h0
theorem hl_5 (hp : 0 ≤ p) (hz : ∀ i, N ≤ i → ch i = 0) : HLD ch N 5 p ↔ (ch p = 49 ∧ ch (p + 1) = 47 ∧ ch (p + 2) = 50) ∧ ch (p + 3) = 45 ∧ ch (p + 4) = 49 ∧ ch (p + 5) = 47 ∧ ch (p + 6) = 50 := by
  unfold HLD
  rw [sL5]
  constructor
  · rintro ⟨-, -, h⟩
    have h0 := h 0 (by decide) (by decide)
    have h1 := h 1 (by decide) (by decide)
    have h2 := h 2 (by decide) (by decide)
    have h3 := h 3 (by decide) (by decide)
    have h4 := h 4 (by decide) (by decide)
    have h5 := h 5 (by decide) (by decide)
    have h6 := h 6 (by decide) (by decide)
    rw [Int.add_zero] at h0
    exact ⟨⟨h0, h1, h2⟩, h3, h4, h5, h6⟩
  · rintro ⟨⟨h0, h1, h2⟩, h3, h4, h5, h6⟩
    refine ⟨hp, ?_, fun i i0 i1 => ?_⟩
    · show p + 7 ≤ N
      by_cases c : p + 7 ≤ N
      · exact c
      · have := hz (p + 6) (by omega); omega
    · have i1' : i < 7 := i1
      rcases (by omega : i = 0 ∨ i = 1 ∨ i = 2 ∨ i = 3 ∨ i = 4 ∨ i = 5 ∨ i = 6) with e | e | e | e | e | e | e <;> subst e
      · rw [Int.add_zero]; exact h0
      · exact h1
      · exact h2
      · exact h3
      · exact h4
      · exact h5
      · exact h6
theorem rsV_h (hp : 0 ≤ p) (hz : ∀ i, N ≤ i → ch i = 0) : ((∃ r, 0 ≤ r ∧ r < 4 ∧ HLD ch N (rsS r) p ∧ (∀ s, 0 ≤ s → s < r → ¬ HLD ch N (rsS s) p) ∧ rsV ch p = r) ∨ ((∀ s, 0 ≤ s → s < 4 → ¬ HLD ch N (rsS s) p) ∧ rsV ch p = -1)) := by
  have e0 := hl_6 hp hz
  have e1 := hl_3 hp hz
  have e2 := hl_4 hp hz
  have e3 := hl_5 hp hz
  have s0 : rsS 0 = 6 := rfl
  have s1 : rsS 1 = 3 := rfl
  have s2 : rsS 2 = 4 := rfl
  have s3 : rsS 3 = 5 := rfl
  unfold rsV
  by_cases c0 : ch p = 42
  · rw [if_pos c0]
    exact Or.inl ⟨0, by decide, by decide, by rw [s0]; exact e0.2 c0, fun s h1 h2 => by omega, rfl⟩
  · rw [if_neg c0]
    have n0 : ¬ HLD ch N (rsS 0) p := fun h => c0 (e0.1 (by rw [s0] at h; exact h))
    by_cases c1 : ch p = 49 ∧ ch (p + 1) = 45 ∧ ch (p + 2) = 48
    · rw [if_pos c1]
      refine Or.inl ⟨1, by decide, by decide, by rw [s1]; exact e1.2 c1, fun s h1 h2 => ?_, rfl⟩
      rw [show s = 0 by omega]; exact n0
    · rw [if_neg c1]
      have n1 : ¬ HLD ch N (rsS 1) p := fun h => c1 (e1.1 (by rw [s1] at h; exact h))
      by_cases c2 : ch p = 48 ∧ ch (p + 1) = 45 ∧ ch (p + 2) = 49
      · rw [if_pos c2]
        refine Or.inl ⟨2, by decide, by decide, by rw [s2]; exact e2.2 c2, fun s h1 h2 => ?_, rfl⟩
        rcases (by omega : s = 0 ∨ s = 1) with e | e <;> rw [e]
        · exact n0
        · exact n1
      · rw [if_neg c2]
        have n2 : ¬ HLD ch N (rsS 2) p := fun h => c2 (e2.1 (by rw [s2] at h; exact h))
        by_cases c3 : (ch p = 49 ∧ ch (p + 1) = 47 ∧ ch (p + 2) = 50) ∧ ch (p + 3) = 45 ∧ ch (p + 4) = 49 ∧ ch (p + 5) = 47 ∧ ch (p + 6) = 50
        · rw [if_pos c3]
          refine Or.inl ⟨3, by decide, by decide, by rw [s3]; exact e3.2 c3, fun s h1 h2 => ?_, rfl⟩
          rcases (by omega : s = 0 ∨ s = 1 ∨ s = 2) with e | e | e <;> rw [e]
          · exact n0
          · exact n1
          · exact n2
        · rw [if_neg c3]
          have n3 : ¬ HLD ch N (rsS 3) p := fun h => c3 (e3.1 (by rw [s3] at h; exact h))
          refine Or.inr ⟨fun s h1 h2 => ?_, rfl⟩
          rcases (by omega : s = 0 ∨ s = 1 ∨ s = 2 ∨ s = 3) with e | e | e | e <;> rw [e]
          · exact n0
          · exact n1
          · exact n2
          · exact n3
theorem p_resultSign {o : Nat × ZS} (hf : f_X11_resultSign x1 S = some o) : o.1 = rsS x1.toInt ∧ o.2 = S := by
  have hr := ro_X11_resultSign hf
  have hf : f_X11_resultSign_0 x1 S = some o := hf
  refine ⟨?_, hr⟩
  unfold rsS
  unfold f_X11_resultSign_0 at hf
  rcases m_ifE hf with ⟨c1, hf⟩ | ⟨c1, hf⟩
  · skip
    replace c1 := ti_eqP (a := x1) (b := (1 : Int32)) c1 rfl (show (1 : Int32).toInt = 1 from rfl)
    cases hf
    try dsimp only
    rw [if_pos (by omega)]
  · skip
    replace c1 := ti_eqN (a := x1) (b := (1 : Int32)) c1 rfl (show (1 : Int32).toInt = 1 from rfl)
    rcases m_ifE hf with ⟨c2, hf⟩ | ⟨c2, hf⟩
    · skip
      replace c2 := ti_eqP (a := x1) (b := (2 : Int32)) c2 rfl (show (2 : Int32).toInt = 2 from rfl)
      cases hf
      try dsimp only
      rw [if_neg (by omega), if_pos (by omega)]
    · skip
      replace c2 := ti_eqN (a := x1) (b := (2 : Int32)) c2 rfl (show (2 : Int32).toInt = 2 from rfl)
      rcases m_ifE hf with ⟨c3, hf⟩ | ⟨c3, hf⟩
      · skip
        replace c3 := ti_eqP (a := x1) (b := (3 : Int32)) c3 rfl (show (3 : Int32).toInt = 3 from rfl)
        cases hf
        try dsimp only
        rw [if_neg (by omega), if_neg (by omega), if_pos (by omega)]
      · skip
        replace c3 := ti_eqN (a := x1) (b := (3 : Int32)) c3 rfl (show (3 : Int32).toInt = 3 from rfl)
        cases hf
        try dsimp only
        rw [if_neg (by omega), if_neg (by omega), if_neg (by omega)]
theorem rhc_2 {o : Int32 × ZS} (h : LW S ch N p) : ∀ (n : Nat) (x1 : Int32), (0 ≤ x1.toInt ∧ x1.toInt ≤ 4) → (∀ s, 0 ≤ s → s < x1.toInt → ¬ HLD ch N (rsS s) p) → f_X2_resultHere_2 n 23 x1 S = some o → (0 ≤ o.1.toInt ∧ o.1.toInt < 4 ∧ HLD ch N (rsS o.1.toInt) p ∧ ∀ s, 0 ≤ s → s < o.1.toInt → ¬ HLD ch N (rsS s) p) ∨ (o.1.toInt = -1 ∧ ∀ s, 0 ≤ s → s < 4 → ¬ HLD ch N (rsS s) p) := by
  obtain ⟨hT, ⟨k23, p2, k2⟩, ⟨hc, hN1, hn⟩, hcb, h44, hp⟩ := id h
  intro n
  induction n with
  | zero => intro x1 _ _ hf; cases hf
  | succ n ih =>
    intro x1 hx hs hf
    have hf : f_X2_resultHere_2s (f_X2_resultHere_2 n) 23 x1 S = some o := hf
    unfold f_X2_resultHere_2s at hf
    rcases m_ifE hf with ⟨c1, hf⟩ | ⟨c1, hf⟩
    · skip
      replace c1 := ti_leP (a := (4 : Int32)) (b := x1) c1 (show (4 : Int32).toInt = 4 from rfl) rfl
      cases hf
      try dsimp only
      exact Or.inr ⟨rfl, fun s s0 s1 => hs s s0 (by omega)⟩
    · skip
      replace c1 := ti_leN (a := (4 : Int32)) (b := x1) c1 (show (4 : Int32).toInt = 4 from rfl) rfl
      obtain ⟨-, hf⟩ := m_chkE hf
      replace hf := m_calY hf p2
      obtain ⟨r2, h_r2, hf⟩ := m_calR hf (fun _ h => ro_X11_resultSign h)
      dsimp only at hf
      obtain ⟨q2, -⟩ := p_resultSign h_r2
      dsimp only at q2
      obtain ⟨-, hf⟩ := m_chkE hf
      obtain ⟨-, hf⟩ := m_chkE hf
      obtain ⟨r3, h_r3, hf⟩ := m_calR hf (fun _ h => ro_X6_holds h)
      dsimp only at hf
      have p_r3 := pc_X6_holds h_r3
      dsimp only at p_r3
      have q3 := p_r3 (by omega) (by omega)
      rw [hc, hN1, h44, q2] at q3
      clear p_r3
      rcases m_ifE hf with ⟨c2, hf⟩ | ⟨c2, hf⟩
      · skip
        replace c2 := ti_eqP (a := r3) (b := (0 : Int32)) c2 rfl (show (0 : Int32).toInt = 0 from rfl)
        obtain ⟨v4, e_v4, hf⟩ := m_bndE hf
        have t_v4 : v4.toInt = x1.toInt + 1 := ti_add e_v4 rfl (show (1 : Int32).toInt = 1 from rfl) (by omega) (by omega)
        refine ih v4 (by omega) (fun s s0 s1 => ?_) hf
        by_cases e : s = x1.toInt
        · rw [e]; exact fun g => by have := q3.2.2 g; omega
        · exact hs s s0 (by omega)
      · skip
        replace c2 := ti_eqN (a := r3) (b := (0 : Int32)) c2 rfl (show (0 : Int32).toInt = 0 from rfl)
        cases hf
        try dsimp only
        exact Or.inl ⟨by omega, by omega, q3.2.1 (by omega), hs⟩
/-- the class's result at its place -/
theorem p_resultHere {o : Int32 × ZS} (h : LW S ch N p) (hf : f_X2_resultHere 23 S = some o) : o.2 = S ∧ o.1.toInt = rsV ch p := by
  have hr := ro_X2_resultHere hf
  refine ⟨hr, ?_⟩
  have g := rhc_2 h mFuel 0 (by decide) (fun s s0 s1 => by have z : (0 : Int32).toInt = 0 := rfl; omega) hf
  rcases g with ⟨g1, g2, g3, g4⟩ | ⟨g1, g2⟩ <;> rcases rsV_h (N := N) h.2.2.2.2.2.1 (fun i hi => lw_out h hi) with ⟨r, r1, r2, r3, r4, r5⟩ | ⟨r1, r2⟩
  · rw [r5]
    rcases Int.lt_trichotomy o.1.toInt r with e | e | e
    · exact absurd g3 (r4 _ g1 e)
    · exact e
    · exact absurd r3 (g4 _ r1 e)
  · exact absurd g3 (r1 _ g1 g2)
  · exact absurd r3 (g2 _ r1 r2)
  · rw [r2, g1]
end RSC
section OPC
variable {S0 S S' : ZS} {g g' d ro la : Nat} {rest : List (Nat × Nat)} {ch : Int → Int} {N p q : Int} {st : PO} {T : TRa} {o : Int32 × ZS} {x1 : Int32}
/-- the class opens a line -/
theorem p_openLine (h : CSt S0 S g g' ch N p st T) (hs : SKs S st T ((ro, la) :: rest)) (hd : rest.length = d) (hd6 : d + 1 ≤ 6) (hx : x1.toInt = ((d + 1 : Nat) : Int)) (hne : la ≠ ro) (hpN : p < N) (hf : f_X2_openLine 23 x1 S = some o) : CSt S0 o.2 g g' ch N (p + 1) st T ∧ SKs o.2 st T (((tP T la).toNat, (tP T la).toNat) :: (ro, la) :: rest) := by
  have hf : f_X2_openLine_0 23 x1 S = some o := hf
  obtain ⟨c, ⟨hg, hX, hF0⟩, l, -, p3, tr, ⟨hw, hl⟩, i5⟩ := id h
  obtain ⟨hT, ⟨k23, p2, k2⟩, ⟨hc, hN1, hn⟩, hcb, h44, hq0⟩ := id l
  have hgr := gg_g hg
  have hx' := c.2.2.1
  have xn : x1.toNatClampNeg = d + 1 := cl_n hx
  obtain ⟨⟨⟨s1, s2⟩, ⟨s3, s4⟩, s5, s6⟩, srest⟩ := id hs
  rw [hd] at s1 s2 s5 s6
  have h300 := hw.1
  have hb := (hw.2.1 la (by omega) s4).1
  have k45 : zK S 45 = 14 := fx_k hx' (by decide) (by decide)
  have k46 : zK S 46 = 14 := fx_k hx' (by decide) (by decide)
  have P8 : zP S 8 23 = some 45 := fx_p hx' (by decide)
  have P9 : zP S 9 23 = some 46 := fx_p hx' (by decide)
  unfold f_X2_openLine_0 at hf
  obtain ⟨-, hf⟩ := m_chkE hf
  replace hf := m_calY hf P8
  obtain ⟨-, hf⟩ := m_chkE hf
  replace hf := m_calY hf p3
  obtain ⟨-, hf⟩ := m_chkE hf
  replace hf := m_calY hf P9
  obtain ⟨v4, e_v4, hf⟩ := m_bndE hf
  have t_v4 : v4.toInt = x1.toInt - 1 := ti_sub e_v4 rfl (show (1 : Int32).toInt = 1 from rfl) (by omega) (by omega)
  obtain ⟨-, hf⟩ := m_chkE hf
  obtain ⟨-, hf⟩ := m_chkE hf
  obtain ⟨v5, e_v5, hf⟩ := m_bndE hf
  have xn4 : v4.toNatClampNeg = d := cl_n (by omega)
  have t5 : v5.toInt = (la : Int) := by rw [e_v5, xn4]; exact s2
  obtain ⟨-, hf⟩ := m_chkE hf
  obtain ⟨r6, h_r6, hf⟩ := m_calR hf (fun _ h => ro_X1_at h)
  dsimp only at hf
  have q6 : r6 = nk S (g + 3) (g + 5) la := by
    have := (p_at c hgr tr (by omega) (by omega) h_r6).2
    rw [t5] at this
    exact this
  have i0 : (zI S 0 r6).toInt = tP T la := by rw [q6]; exact (tr.2.2.2 la s4).1.1
  obtain ⟨-, hf⟩ := m_chkE hf
  obtain ⟨-, hf⟩ := m_chkE hf
  obtain ⟨-, hf⟩ := m_chkE hf
  obtain ⟨S7, e_S7, hf⟩ := m_bndE hf
  rw [xn] at e_S7
  have T7 : ZT S7 := e_S7.symm ▸ zt_A (a := 45) hT k45
  have F7 : FR (fun a => a = 45) S S7 := fr_A hT k45 e_S7
  have X7 := fix_fr hx' F7
  have P97 : zP S7 9 23 = some 46 := fx_p X7 (by decide)
  have P87 : zP S7 8 23 = some 45 := fx_p X7 (by decide)
  have a457 : zA S7 45 (d + 1) = zI S 0 r6 := by
    rw [e_S7]
    show va_up (zA S) 45 (upd (zA S 45) (d + 1) (zI S 0 r6)) 45 (d + 1) = _
    rw [va_up_self, upd_self]
  have a45o : ∀ i, i ≠ d + 1 → zA S7 45 i = zA S 45 i := fun i hi => by
    rw [e_S7]
    show va_up (zA S) 45 (upd (zA S 45) (d + 1) (zI S 0 r6)) 45 i = _
    rw [va_up_self, upd_ne hi]
  have a467 : zA S7 46 = zA S 46 := by
    rw [e_S7]
    show va_up (zA S) 45 (upd (zA S 45) (d + 1) (zI S 0 r6)) 46 = _
    exact va_up_ne _ _ (by decide)
  obtain ⟨-, hf⟩ := m_chkE hf
  replace hf := m_calY hf P97
  obtain ⟨-, hf⟩ := m_chkE hf
  replace hf := m_calY hf P87
  obtain ⟨-, hf⟩ := m_chkE hf
  obtain ⟨-, hf⟩ := m_chkE hf
  obtain ⟨v10, e_v10, hf⟩ := m_bndE hf
  have q10 : v10 = zI S 0 r6 := by rw [e_v10, xn]; exact a457
  obtain ⟨-, hf⟩ := m_chkE hf
  obtain ⟨-, hf⟩ := m_chkE hf
  obtain ⟨S11, e_S11, hf⟩ := m_bndE hf
  rw [xn] at e_S11
  have k467 : zK S7 46 = 14 := fx_k X7 (by decide) (by decide)
  have T11 : ZT S11 := e_S11.symm ▸ zt_A (a := 46) T7 k467
  have F11 : FR (fun a => a = 46) S7 S11 := fr_A T7 k467 e_S11
  have X11 := fix_fr X7 F11
  have a4611 : zA S11 46 (d + 1) = v10 := by
    rw [e_S11]
    show va_up (zA S7) 46 (upd (zA S7 46) (d + 1) v10) 46 (d + 1) = _
    rw [va_up_self, upd_self]
  have a46o : ∀ i, i ≠ d + 1 → zA S11 46 i = zA S7 46 i := fun i hi => by
    rw [e_S11]
    show va_up (zA S7) 46 (upd (zA S7 46) (d + 1) v10) 46 i = _
    rw [va_up_self, upd_ne hi]
  have a4511 : zA S11 45 = zA S7 45 := by
    rw [e_S11]
    show va_up (zA S7) 46 (upd (zA S7 46) (d + 1) v10) 45 = _
    exact va_up_ne _ _ (by decide)
  have FW : FR (fun a => a = 45 ∨ a = 46) S S11 := fr_t (fr_m F7 (fun a _ e => Or.inl e)) (fr_m F11 (fun a _ e => Or.inr e))
  have sk11 := sks_fr (D := d + 1) FW (fun i hi => ⟨by omega, by omega, by omega, by omega⟩) (fun i hi => ⟨by rw [a4511, a45o i (by omega)], by rw [a46o i (by omega), a467]⟩) ((ro, la) :: rest) (by show rest.length + 1 ≤ d + 1; omega) hs
  have P1111 : zP S11 11 23 = some 48 := fx_p X11 (by decide)
  have P1011 : zP S11 10 23 = some 47 := fx_p X11 (by decide)
  have z48 : zB S11 48 x1.toNatClampNeg = some (51+4*(d+1)) := by rw [xn]; exact (X11.2.2.2.2.1 (d + 1) (by omega)).2.1
  have b11 := bo_fr (s6 hne) FW (by omega) (by omega)
  obtain ⟨-, hf⟩ := m_chkE hf
  replace hf := m_calY hf P1111
  obtain ⟨-, hf⟩ := m_chkE hf
  obtain ⟨-, hf⟩ := m_chkE hf
  replace hf := m_calY hf z48
  obtain ⟨-, hf⟩ := m_chkE hf
  replace hf := m_calY hf P1011
  obtain ⟨v15, e_v15, hf⟩ := m_bndE hf
  have t_v15 : v15.toInt = x1.toInt - 1 := ti_sub e_v15 rfl (show (1 : Int32).toInt = 1 from rfl) (by omega) (by omega)
  have xn15 : v15.toNatClampNeg = d := cl_n (by omega)
  have z47 : zB S11 47 v15.toNatClampNeg = some (49+4*d) := by rw [xn15]; exact (X11.2.2.2.2.1 d (by omega)).1
  obtain ⟨-, hf⟩ := m_chkE hf
  obtain ⟨-, hf⟩ := m_chkE hf
  replace hf := m_calY hf z47
  obtain ⟨-, hf⟩ := m_chkE hf
  obtain ⟨⟨r17, S17c⟩, h_r17, hf⟩ := m_calE hf
  dsimp only at hf
  have kb := fx_bk (2 * d + 3) (by omega)
  have e49 : 49 + 2 * (2 * d + 3) = 51 + 4 * (d + 1) := by omega
  have e50 : 50 + 2 * (2 * d + 3) = 52 + 4 * (d + 1) := by omega
  rw [e49, e50] at kb
  have kb1 : zK S11 (51 + 4 * (d + 1)) = 0 := (fx_k X11 (by omega) (by omega)).trans kb.1
  have kb2 : zK S11 (51 + 4 * (d + 1) + 1) = 14 := by
    rw [show 51 + 4 * (d + 1) + 1 = 52 + 4 * (d + 1) by omega]
    exact (fx_k X11 (by omega) (by omega)).trans kb.2
  have pb : zP S11 0 (51 + 4 * (d + 1)) = some (51 + 4 * (d + 1) + 1) := by
    have := X11.2.2.1 (2 * d + 3) (by omega)
    rw [e49, e50] at this
    rw [this, show 51 + 4 * (d + 1) + 1 = 52 + 4 * (d + 1) by omega]
  obtain ⟨T17, F17, B17⟩ := bo_copy T11 kb1 pb kb2 b11 h_r17
  dsimp only at T17 F17 B17
  have X17 := fix_fr X11 F17
  have e45 : zA S17c 45 = zA S11 45 := (fr_e F17 (fx_l X11 (by decide) (by decide)) (by omega)).2.2.2.2.2.1 (by rw [show zK S11 45 = 14 from fx_k X11 (by decide) (by decide)]; decide)
  have e46 : zA S17c 46 = zA S11 46 := (fr_e F17 (fx_l X11 (by decide) (by decide)) (by omega)).2.2.2.2.2.1 (by rw [show zK S11 46 = 14 from fx_k X11 (by decide) (by decide)]; decide)
  have sk17 := sks_fr (D := d + 1) F17 (fun i hi => ⟨by omega, by omega, by omega, by omega⟩) (fun i hi => ⟨by rw [e45], by rw [e46]⟩) ((ro, la) :: rest) (by show rest.length + 1 ≤ d + 1; omega) sk11
  have FW17 : FR (fun a => a = 45 ∨ a = 46 ∨ a = 51 + 4 * (d + 1) ∨ a = 51 + 4 * (d + 1) + 1) S S17c := fr_t (fr_m FW (fun a _ e => by omega)) (fr_m F17 (fun a _ e => by omega))
  have i417 : (zI S17c 4 23).toInt = p := by rw [(fr_e FW17 (by rw [k23]; decide) (by omega)).2.2.1]; exact h44
  obtain ⟨-, hf⟩ := m_chkE hf
  obtain ⟨v18, e_v18, hf⟩ := m_bndE hf
  have t_v18 : v18.toInt = (zI S17c 4 23).toInt + 1 := ti_add e_v18 rfl (show (1 : Int32).toInt = 1 from rfl) (by omega) (by omega)
  obtain ⟨-, hf⟩ := m_chkE hf
  obtain ⟨S19, e_S19, hf⟩ := m_bndE hf
  cases hf
  try dsimp only
  have F19 : FR (fun a => a = 23 ∨ a = 45 ∨ a = 46 ∨ a = 51 + 4 * (d + 1) ∨ a = 51 + 4 * (d + 1) + 1) S S19 := fr_t (fr_m FW17 (fun a _ e => Or.inr e)) (fr_m (fr_I e_S19) (fun a _ e => Or.inl e))
  have k2317 : zK S17c 23 = 2 := (fr_k FW17 (by rw [k23]; decide)).trans k23
  have T19 : ZT S19 := e_S19.symm ▸ zt_I T17 k2317 (by decide) (show (0 : Int) ≤ v18.toInt ∧ v18.toInt ≤ (90100 : Int) by omega)
  have L19 : LW S19 ch N (p + 1) := lw_fr l T19 F19 (by omega) (by rw [e_S19, zI_self]; omega) (by omega)
  refine ⟨cs_rd h L19 (by omega) F19 (fun a e => by unfold WRd; omega), ?_, ?_⟩
  · show SK1 S19 st T (rest.length + 1) _ _
    rw [hd]
    have F9 : FR (fun a => a = 23) S17c S19 := fr_I e_S19
    have n45 : zA S19 45 = zA S17c 45 := by rw [e_S19]; rfl
    have n46 : zA S19 46 = zA S17c 46 := by rw [e_S19]; rfl
    refine ⟨⟨?_, ?_⟩, ⟨Nat.le_refl _, by omega⟩, bo_fr B17 F9 (by omega) (by omega), fun e => absurd rfl e⟩
    · rw [n45, e45, a4511, a457]; omega
    · rw [n46, e46, a4611, q10]; omega
  · exact sks_fr (D := d + 1) (fr_I e_S19) (fun i hi => ⟨by omega, by omega, by omega, by omega⟩) (fun i hi => ⟨by rw [e_S19]; rfl, by rw [e_S19]; rfl⟩) ((ro, la) :: rest) (by show rest.length + 1 ≤ d + 1; omega) sk17
end OPC
end
section
section RMV
variable {S0 S S' : ZS} {g g' : Nat} {ch : Int → Int} {N p : Int} {st : PO} {T : TRa} {o : Int32 × ZS} {x1 x2 x3 : Int32}
/-- how the class's moves end -/
noncomputable def MCo (S0 : ZS) (g g' : Nat) (ch : Int → Int) (N : Int) (st : PO) (z : Option (Int × TRa)) (o : Int32 × ZS) : Prop := (∃ e T', z = some (e, T') ∧ o.1.toInt = 1 ∧ CSt S0 o.2 g g' ch N e st T' ∧ rsV ch e ≠ -1) ∨ (z = none ∧ o.1.toInt = 0 ∧ CSn S0 o.2 g g')
theorem rmv_34 : ∀ (n : Nat) (x1 x2 : Int32) (S : ZS) (p : Int) (T : TRa) (ro la : Nat) (rest : List (Nat × Nat)) (k : Nat), x1.toInt = (rest.length : Int) → rest.length ≤ 6 → x2.toInt = 2001 - (k : Int) → k ≤ 2001 → CSt S0 S g g' ch N p st T → SKs S st T ((ro, la) :: rest) → d_X2_readMoves_34 n 23 x1 x2 S = some o → MCo S0 g g' ch N st (mach ch N st k p ((ro, la) :: rest) T) o := by
  intro n
  induction n with
  | zero => intro x1 x2 S p T ro la rest k _ _ _ _ _ _ hf; cases hf
  | succ n ih =>
    intro x1 x2 S p T ro la rest k h1 hr6 h2 hk h hs hf
    have hf : d_X2_readMoves_34s (d_X2_readMoves_34 n) 23 x1 x2 S = some o := hf
    obtain ⟨c, ⟨hg, hX, hF0⟩, l, hpN, p3, tr, ⟨hw, hl⟩, i5⟩ := id h
    have h44 := l.2.2.2.2.1
    have hp0 := l.2.2.2.2.2
    have hn := l.2.2.1.2.2
    have xn : x1.toNatClampNeg = rest.length := cl_n h1
    have hgr := gg_g hg
    have l7 : ((ro, la) :: rest).length ≤ 7 := by show rest.length + 1 ≤ 7; omega
    have go : ∀ (S2 : ZS) (t0 : Int32), 1 ≤ k → CSt S0 S2 g g' ch N (blk ch p) st T → SKs S2 st T ((ro, la) :: rest) → (t0.toInt = 0 ∧ la = ro ∨ t0.toInt = 1 ∧ la ≠ ro) → d_X2_readMoves_65 (d_X2_readMoves_34 n) 23 x1 x2 t0 S2 = some o → MCo S0 g g' ch N st (mach ch N st k p ((ro, la) :: rest) T) o := by
      intro S2 t0 hk1 h2' hs2 ht hf
      obtain ⟨k', rfl⟩ : ∃ k', k = k' + 1 := ⟨k - 1, by omega⟩
      obtain ⟨cg2, -, l2, hp2N, p32, tr2, -, -⟩ := id h2'
      obtain ⟨hT2, ⟨k23, p2, k2⟩, ⟨hc, hN1, -⟩, hcb, h442, hp2⟩ := id l2
      -- the next turn
      have nxt : ∀ (S3 : ZS) (y1 : Int32) (e : Int) (T3 : TRa) (r3 l3 : Nat) (rest3 : List (Nat × Nat)), y1.toInt = (rest3.length : Int) → rest3.length ≤ 6 → CSt S0 S3 g g' ch N e st T3 → SKs S3 st T3 ((r3, l3) :: rest3) → d_X2_readMoves_197 (d_X2_readMoves_34 n) 23 y1 x2 S3 = some o → MCo S0 g g' ch N st (mach ch N st k' e ((r3, l3) :: rest3) T3) o := by
        intro S3 y1 e T3 r3 l3 rest3 hy hr3 h3 hs3 hf
        unfold d_X2_readMoves_197 at hf
        obtain ⟨v1, e1, hf⟩ := m_bndE hf
        have t1 : v1.toInt = x2.toInt + 1 := ti_add e1 rfl (show (1 : Int32).toInt = 1 from rfl) (by omega) (by omega)
        exact ih y1 v1 S3 e T3 r3 l3 rest3 k' hy hr3 (by omega) (by omega) h3 hs3 hf
      have nor : ¬ (rest = [] ∧ rsV ch (blk ch p) ≠ -1) → ¬ (la ≠ ro ∧ ch (blk ch p) = 40) → ¬ (la ≠ ro ∧ rest ≠ [] ∧ ch (blk ch p) = 41) → d_X2_readMoves_187 (d_X2_readMoves_34 n) 23 x1 x2 S2 = some o → MCo S0 g g' ch N st (mach ch N st (k' + 1) p ((ro, la) :: rest) T) o := by
        intro q1 q2 q3 hf
        rw [mc_m q1 q2 q3]
        unfold d_X2_readMoves_187 at hf
        obtain ⟨-, hf⟩ := m_chkE hf
        obtain ⟨⟨r2, S3⟩, h_r2, hf⟩ := m_cal2E hf
        dsimp only at hf
        have g2 := p_readMove h2' hs2 rfl hr6 h1 h_r2
        unfold MVo at g2
        dsimp only at g2
        rcases m_ifE hf with ⟨c1, hf⟩ | ⟨c1, hf⟩
        · skip
          replace c1 := ti_eqP (a := r2) (b := (0 : Int32)) c1 rfl (show (0 : Int32).toInt = 0 from rfl)
          obtain ⟨-, hf⟩ := m_chkE hf
          cases hf
          try dsimp only
          rcases g2 with ⟨e, T', -, a2, -⟩ | ⟨a1, -, a3⟩
          · omega
          · rw [a1]; exact Or.inr ⟨rfl, rfl, a3⟩
        · skip
          replace c1 := ti_eqN (a := r2) (b := (0 : Int32)) c1 rfl (show (0 : Int32).toInt = 0 from rfl)
          rcases g2 with ⟨e, T', a1, -, a3, a4⟩ | ⟨-, a2, -⟩
          · rw [a1]; exact nxt S3 x1 e T' ro (tn T + 1) rest h1 hr6 a3 a4 hf
          · omega
      have clo : ¬ (rest = [] ∧ rsV ch (blk ch p) ≠ -1) → ¬ (la ≠ ro ∧ ch (blk ch p) = 40) → d_X2_readMoves_128 (d_X2_readMoves_34 n) 23 x1 x2 t0 S2 = some o → MCo S0 g g' ch N st (mach ch N st (k' + 1) p ((ro, la) :: rest) T) o := by
        intro q1 q2 hf
        unfold d_X2_readMoves_128 at hf
        rcases m_ifE hf with ⟨c1, hf⟩ | ⟨c1, hf⟩
        · skip
          replace c1 := ti_eqP (a := t0) (b := (0 : Int32)) c1 rfl (show (0 : Int32).toInt = 0 from rfl)
          exact nor q1 q2 (fun e => by omega) hf
        · skip
          replace c1 := ti_eqN (a := t0) (b := (0 : Int32)) c1 rfl (show (0 : Int32).toInt = 0 from rfl)
          rcases m_ifE hf with ⟨c2, hf⟩ | ⟨c2, hf⟩
          · skip
            replace c2 := ti_leP (a := x1) (b := (0 : Int32)) c2 rfl (show (0 : Int32).toInt = 0 from rfl)
            exact nor q1 q2 (fun e => e.2.1 (List.eq_nil_of_length_eq_zero (by omega))) hf
          · skip
            replace c2 := ti_leN (a := x1) (b := (0 : Int32)) c2 rfl (show (0 : Int32).toInt = 0 from rfl)
            obtain ⟨-, hf⟩ := m_chkE hf
            replace hf := m_calY hf p2
            obtain ⟨-, hf⟩ := m_chkE hf
            obtain ⟨-, hf⟩ := m_chkE hf
            obtain ⟨r2, h_r2, hf⟩ := m_calR hf (fun _ h => ro_X6_at h)
            dsimp only at hf
            have p_r2 := pc_X6_at h_r2
            dsimp only at p_r2
            rw [hc, h442] at p_r2
            obtain ⟨-, hf⟩ := m_chkE hf
            rcases m_ifE hf with ⟨c3, hf⟩ | ⟨c3, hf⟩
            · skip
              replace c3 := ti_eqP (a := r2) (b := (41 : Int32)) c3 rfl (show (41 : Int32).toInt = 41 from rfl)
              have ln : la ≠ ro := by omega
              have bN : blk ch p < N := by
                by_cases e : blk ch p < N
                · exact e
                · have := lw_out l2 (show N ≤ blk ch p by omega); omega
              obtain ⟨rl, rest', hrest⟩ : ∃ rl rest', rest = rl :: rest' := by
                cases hq : rest with
                | nil => rw [hq] at h1; have : (([] : List (Nat × Nat)).length : Int) = 0 := rfl; omega
                | cons a b => exact ⟨a, b, rfl⟩
              obtain ⟨ro2, la2⟩ := rl
              subst hrest
              have ll : (((ro2, la2) :: rest').length : Int) = (rest'.length : Int) + 1 := rfl
              have s2' := hs2.2
              obtain ⟨⟨⟨-, z2⟩, ⟨-, z4⟩, -⟩, -⟩ := id s2'
              rw [mc_c q1 ⟨ln, (fun e => by cases e), by omega⟩]
              obtain ⟨v3, e_v3, hf⟩ := m_bndE hf
              have t_v3 : v3.toInt = x1.toInt + (-1) := ti_add e_v3 rfl (show (-1 : Int32).toInt = -1 from rfl) (by omega) (by omega)
              obtain ⟨-, hf⟩ := m_chkE hf
              obtain ⟨v4, e_v4, hf⟩ := m_bndE hf
              have t_v4 : v4.toInt = (zI S2 4 23).toInt + 1 := ti_add e_v4 rfl (show (1 : Int32).toInt = 1 from rfl) (by omega) (by omega)
              obtain ⟨-, hf⟩ := m_chkE hf
              obtain ⟨S5, e_S5, hf⟩ := m_bndE hf
              have L5 : LW S5 ch N (blk ch p + 1) := lw_at l2 e_S5 (by omega) (by omega)
              have C5 := cs_rd h2' L5 (by omega) (fr_I e_S5) (fun a e => by unfold WRd; omega)
              have SK5 := sks_0 cg2 (fr_I e_S5) (fun a ha e => by omega) _ (by show rest'.length + 1 ≤ 7; omega) s2'
              have p35 := C5.2.2.2.2.1
              have p95 : zP S5 9 23 = some 46 := fx_p C5.1.2.2.1 (by decide)
              obtain ⟨-, hf⟩ := m_chkE hf
              replace hf := m_calY hf p35
              obtain ⟨-, hf⟩ := m_chkE hf
              replace hf := m_calY hf p95
              obtain ⟨-, hf⟩ := m_chkE hf
              obtain ⟨-, hf⟩ := m_chkE hf
              obtain ⟨v8, e_v8, hf⟩ := m_bndE hf
              have xn3 : v3.toNatClampNeg = rest'.length := cl_n (by omega)
              have t8 : v8.toInt = (la2 : Int) := by rw [e_v8, xn3]; exact SK5.1.1.2
              obtain ⟨-, hf⟩ := m_chkE hf
              obtain ⟨r9, h_r9, hf⟩ := m_calR hf (fun _ h => ro_X1_at h)
              dsimp only at hf
              have q9 : r9 = nk S5 (g + 3) (g + 5) la2 := by
                have := (p_at C5.1 hgr C5.2.2.2.2.2.1 (by omega) (by omega) h_r9).2
                rw [t8] at this
                exact this
              obtain ⟨-, hf⟩ := m_chkE hf
              obtain ⟨-, hf⟩ := m_chkE hf
              obtain ⟨⟨r11, S12⟩, h_r11, hf⟩ := m_cal2E hf
              dsimp only at hf
              rw [q9] at h_r11
              have g11 := cs_rk C5 z4 h_r11
              dsimp only at g11
              rcases m_ifE hf with ⟨c4, hf⟩ | ⟨c4, hf⟩
              · skip
                replace c4 := ti_eqP (a := r11) (b := (0 : Int32)) c4 rfl (show (0 : Int32).toInt = 0 from rfl)
                obtain ⟨-, hf⟩ := m_chkE hf
                cases hf
                try dsimp only
                rcases g11 with ⟨e, w, -, b2, -⟩ | ⟨b1, -, b3⟩
                · omega
                · show MCo S0 g g' ch N st (match rmkP ch N 2001 (blk ch (blk ch p + 1)) (tR T la2) with | none => none | some (e, w) => _) _
                  rw [b1]; exact Or.inr ⟨rfl, rfl, b3⟩
              · skip
                replace c4 := ti_eqN (a := r11) (b := (0 : Int32)) c4 rfl (show (0 : Int32).toInt = 0 from rfl)
                rcases g11 with ⟨e, w, b1, -, b3, b4⟩ | ⟨-, b2, -⟩
                · show MCo S0 g g' ch N st (match rmkP ch N 2001 (blk ch (blk ch p + 1)) (tR T la2) with | none => none | some (e, w) => mach ch N st k' e ((ro2, la2) :: rest') (rkT T la2 w)) _
                  rw [b1]
                  have nn := fun a h1 h2 h3 h4 => (nk_ne C5.1 hgr la2 (a := a) h1 h2 h3 h4).2
                  have hgb : (g = 35 ∧ g' = 99) ∨ (g = 99 ∧ g' = 35) := hg
                  have SK12 := sks_T (T' := rkT T la2 w) hw (Nat.le_refl _) (fun _ _ => rfl) (fun _ _ => rfl) _ (sks_0 C5.1 b4 (fun a ha e => by
                    rcases e with e | e
                    · omega
                    · exact nn a (by omega) (by omega) (by omega) (by omega) e.symm) _ (by show rest'.length + 1 ≤ 7; omega) SK5)
                  exact nxt S12 v3 e (rkT T la2 w) ro2 la2 rest' (by omega) (by omega) b3 SK12 hf
                · omega
            · skip
              replace c3 := ti_eqN (a := r2) (b := (41 : Int32)) c3 rfl (show (41 : Int32).toInt = 41 from rfl)
              exact nor q1 q2 (fun e => by omega) hf
      have opn : ¬ (rest = [] ∧ rsV ch (blk ch p) ≠ -1) → d_X2_readMoves_80 (d_X2_readMoves_34 n) 23 x1 x2 t0 S2 = some o → MCo S0 g g' ch N st (mach ch N st (k' + 1) p ((ro, la) :: rest) T) o := by
        intro q1 hf
        unfold d_X2_readMoves_80 at hf
        rcases m_ifE hf with ⟨c1, hf⟩ | ⟨c1, hf⟩
        · skip
          replace c1 := ti_eqP (a := t0) (b := (0 : Int32)) c1 rfl (show (0 : Int32).toInt = 0 from rfl)
          exact clo q1 (fun e => by omega) hf
        · skip
          replace c1 := ti_eqN (a := t0) (b := (0 : Int32)) c1 rfl (show (0 : Int32).toInt = 0 from rfl)
          obtain ⟨-, hf⟩ := m_chkE hf
          replace hf := m_calY hf p2
          obtain ⟨-, hf⟩ := m_chkE hf
          obtain ⟨-, hf⟩ := m_chkE hf
          obtain ⟨r2, h_r2, hf⟩ := m_calR hf (fun _ h => ro_X6_at h)
          dsimp only at hf
          have p_r2 := pc_X6_at h_r2
          dsimp only at p_r2
          rw [hc, h442] at p_r2
          obtain ⟨-, hf⟩ := m_chkE hf
          rcases m_ifE hf with ⟨c2, hf⟩ | ⟨c2, hf⟩
          · skip
            replace c2 := ti_eqP (a := r2) (b := (40 : Int32)) c2 rfl (show (40 : Int32).toInt = 40 from rfl)
            have ln : la ≠ ro := by omega
            have bN : blk ch p < N := by
              by_cases e : blk ch p < N
              · exact e
              · have := lw_out l2 (show N ≤ blk ch p by omega); omega
            rw [mc_o q1 ⟨ln, by omega⟩]
            rcases m_ifE hf with ⟨c3, hf⟩ | ⟨c3, hf⟩
            · skip
              replace c3 := ti_ltP (a := x1) (b := (6 : Int32)) c3 rfl (show (6 : Int32).toInt = 6 from rfl)
              obtain ⟨v3, e_v3, hf⟩ := m_bndE hf
              have t_v3 : v3.toInt = x1.toInt + 1 := ti_add e_v3 rfl (show (1 : Int32).toInt = 1 from rfl) (by omega) (by omega)
              obtain ⟨-, hf⟩ := m_chkE hf
              obtain ⟨⟨r4, S4c⟩, h_r4, hf⟩ := m_calE hf
              dsimp only at hf
              obtain ⟨a1, a2⟩ := p_openLine (d := rest.length) h2' hs2 rfl (by omega) (by omega) ln bN h_r4
              dsimp only at a1 a2
              obtain ⟨-, hf⟩ := m_chkE hf
              rw [if_neg (by omega)]
              exact nxt S4c v3 _ T _ _ ((ro, la) :: rest) (by show v3.toInt = ((rest.length + 1 : Nat) : Int); omega) (by show rest.length + 1 ≤ 6; omega) a1 a2 hf
            · skip
              replace c3 := ti_ltN (a := x1) (b := (6 : Int32)) c3 rfl (show (6 : Int32).toInt = 6 from rfl)
              obtain ⟨-, hf⟩ := m_chkE hf
              obtain ⟨-, hf⟩ := m_chkE hf
              obtain ⟨⟨r5, S5c⟩, h_r5, hf⟩ := m_calE hf
              dsimp only at hf
              obtain ⟨b1, b2, b3⟩ := lw_no (x1 := 8) l2 (by decide) (by omega) h_r5
              dsimp only at b1 b2 b3
              obtain ⟨-, hf⟩ := m_chkE hf
              obtain ⟨-, hf⟩ := m_chkE hf
              cases hf
              try dsimp only
              rw [if_pos (by omega)]
              exact Or.inr ⟨rfl, b1, cn_rd (cs_n h2') hg hX b2.1 b3 (fun a e => by unfold WRd; omega)⟩
          · skip
            replace c2 := ti_eqN (a := r2) (b := (40 : Int32)) c2 rfl (show (40 : Int32).toInt = 40 from rfl)
            exact clo q1 (fun e => by omega) hf
      unfold d_X2_readMoves_65 at hf
      rcases m_ifE hf with ⟨c1, hf⟩ | ⟨c1, hf⟩
      · skip
        replace c1 := ti_eqP (a := x1) (b := (0 : Int32)) c1 rfl (show (0 : Int32).toInt = 0 from rfl)
        obtain ⟨-, hf⟩ := m_chkE hf
        obtain ⟨r1, h_r1, hf⟩ := m_calR hf (fun _ h => ro_X2_resultHere h)
        dsimp only at hf
        obtain ⟨-, q1⟩ := p_resultHere l2 h_r1
        dsimp only at q1
        have r0 : rest = [] := List.eq_nil_of_length_eq_zero (by omega)
        obtain ⟨-, hf⟩ := m_chkE hf
        rcases m_ifE hf with ⟨c2, hf⟩ | ⟨c2, hf⟩
        · skip
          replace c2 := ti_eqP (a := r1) (b := (-1 : Int32)) c2 rfl (show (-1 : Int32).toInt = -1 from rfl)
          exact opn (fun e => e.2 (by omega)) hf
        · skip
          replace c2 := ti_eqN (a := r1) (b := (-1 : Int32)) c2 rfl (show (-1 : Int32).toInt = -1 from rfl)
          obtain ⟨-, hf⟩ := m_chkE hf
          cases hf
          try dsimp only
          rw [mc_r r0 (by omega)]
          exact Or.inl ⟨_, _, rfl, rfl, h2', by omega⟩
      · skip
        replace c1 := ti_eqN (a := x1) (b := (0 : Int32)) c1 rfl (show (0 : Int32).toInt = 0 from rfl)
        exact opn (fun e => by rw [e.1] at h1; have : (([] : List (Nat × Nat)).length : Int) = 0 := rfl; omega) hf
    unfold d_X2_readMoves_34s at hf
    rcases m_ifE hf with ⟨c1, hf⟩ | ⟨c1, hf⟩
    · skip
      replace c1 := ti_ltP (a := (2000 : Int32)) (b := x2) c1 (show (2000 : Int32).toInt = 2000 from rfl) rfl
      obtain ⟨-, hf⟩ := m_chkE hf
      obtain ⟨-, hf⟩ := m_chkE hf
      obtain ⟨⟨r1, S1c⟩, h_r1, hf⟩ := m_calE hf
      dsimp only at hf
      obtain ⟨b1, b2, b3⟩ := lw_no (x1 := 1) l (by decide) (by omega) h_r1
      dsimp only at b1 b2 b3
      obtain ⟨-, hf⟩ := m_chkE hf
      obtain ⟨-, hf⟩ := m_chkE hf
      cases hf
      try dsimp only
      have k0 : k = 0 := by omega
      subst k0
      exact Or.inr ⟨rfl, b1, cn_rd (cs_n h) hg hX b2.1 b3 (fun a e => by unfold WRd; omega)⟩
    · skip
      replace c1 := ti_ltN (a := (2000 : Int32)) (b := x2) c1 (show (2000 : Int32).toInt = 2000 from rfl) rfl
      obtain ⟨-, hf⟩ := m_chkE hf
      obtain ⟨⟨r2, S2c⟩, h_r2, hf⟩ := m_calE hf
      dsimp only at hf
      obtain ⟨d1, d2, d3, d4⟩ := lw_bl l h_r2
      dsimp only at d2 d3
      have C2 := cs_rd h d2 (by omega) d3 (fun a e => by unfold WRd; omega)
      have SK2 := sks_0 c d3 (fun a ha e => by omega) _ l7 hs
      have p92 : zP S2c 9 23 = some 46 := fx_p C2.1.2.2.1 (by decide)
      have p82 : zP S2c 8 23 = some 45 := fx_p C2.1.2.2.1 (by decide)
      obtain ⟨⟨⟨z1, z2⟩, -⟩, -⟩ := id SK2
      obtain ⟨-, hf⟩ := m_chkE hf
      obtain ⟨-, hf⟩ := m_chkE hf
      replace hf := m_calY hf p92
      obtain ⟨-, hf⟩ := m_chkE hf
      obtain ⟨-, hf⟩ := m_chkE hf
      obtain ⟨v4, e_v4, hf⟩ := m_bndE hf
      have t4 : v4.toInt = (la : Int) := by rw [e_v4, xn]; exact z2
      obtain ⟨-, hf⟩ := m_chkE hf
      replace hf := m_calY hf p82
      obtain ⟨-, hf⟩ := m_chkE hf
      obtain ⟨-, hf⟩ := m_chkE hf
      obtain ⟨v6, e_v6, hf⟩ := m_bndE hf
      have t6 : v6.toInt = (ro : Int) := by rw [e_v6, xn]; exact z1
      rcases m_ifE hf with ⟨c2, hf⟩ | ⟨c2, hf⟩
      · skip
        replace c2 := ti_eqP (a := v4) (b := v6) c2 rfl rfl
        exact go S2c 0 (by omega) C2 SK2 (Or.inl ⟨rfl, by omega⟩) hf
      · skip
        replace c2 := ti_eqN (a := v4) (b := v6) c2 rfl rfl
        exact go S2c 1 (by omega) C2 SK2 (Or.inr ⟨rfl, by omega⟩) hf
/-- the class reads all moves -/
theorem p_readMoves (h : CSt S0 S g g' ch N p st T) (hst : BO S (g + 1) st) (hf : d_X2_readMoves 23 S = some o) : MCo S0 g g' ch N st (mach ch N st 2001 p [(0, 0)] T) o := by
  have hf : d_X2_readMoves_0 23 S = some o := hf
  obtain ⟨c, ⟨hg, hX, hF0⟩, l, hpN, p3, tr, ⟨hw, hl⟩, i5⟩ := id h
  have hgr := gg_g hg
  have hgb : (g = 35 ∧ g' = 99) ∨ (g = 99 ∧ g' = 35) := hg
  have hx' := c.2.2.1
  have k45 : zK S 45 = 14 := fx_k hx' (by decide) (by decide)
  have P8 : zP S 8 23 = some 45 := fx_p hx' (by decide)
  have xn : (0 : Int32).toNatClampNeg = 0 := rfl
  have h44 := l.2.2.2.2
  unfold d_X2_readMoves_0 at hf
  obtain ⟨-, hf⟩ := m_chkE hf
  replace hf := m_calY hf P8
  obtain ⟨-, hf⟩ := m_chkE hf
  obtain ⟨-, hf⟩ := m_chkE hf
  obtain ⟨S2, e_S2, hf⟩ := m_bndE hf
  rw [xn] at e_S2
  have T2 : ZT S2 := e_S2.symm ▸ zt_A (a := 45) l.1 k45
  have F2 : FR (fun a => a = 45) S S2 := fr_A l.1 k45 e_S2
  have X2 := fix_fr hx' F2
  have P92 : zP S2 9 23 = some 46 := fx_p X2 (by decide)
  have k462 : zK S2 46 = 14 := fx_k X2 (by decide) (by decide)
  have a45 : zA S2 45 0 = 0 := by
    rw [e_S2]
    show va_up (zA S) 45 (upd (zA S 45) 0 0) 45 0 = _
    rw [va_up_self, upd_self]
  obtain ⟨-, hf⟩ := m_chkE hf
  replace hf := m_calY hf P92
  obtain ⟨-, hf⟩ := m_chkE hf
  obtain ⟨-, hf⟩ := m_chkE hf
  obtain ⟨S4, e_S4, hf⟩ := m_bndE hf
  rw [xn] at e_S4
  have T4 : ZT S4 := e_S4.symm ▸ zt_A (a := 46) T2 k462
  have F4 : FR (fun a => a = 46) S2 S4 := fr_A T2 k462 e_S4
  have X4 := fix_fr X2 F4
  have FW : FR (fun a => a = 45 ∨ a = 46) S S4 := fr_t (fr_m F2 (fun a _ e => Or.inl e)) (fr_m F4 (fun a _ e => Or.inr e))
  have L4 : LW S4 ch N p := lw_nd l T4 FW (by omega) (by omega)
  have C4 := cs_rd h L4 hpN FW (fun a e => by unfold WRd; omega)
  have a464 : zA S4 46 0 = 0 := by
    rw [e_S4]
    show va_up (zA S2) 46 (upd (zA S2 46) 0 0) 46 0 = _
    rw [va_up_self, upd_self]
  have a454 : zA S4 45 0 = 0 := by
    rw [e_S4]
    show va_up (zA S2) 46 (upd (zA S2 46) 0 0) 45 0 = _
    rw [va_up_ne _ _ (by decide)]; exact a45
  have P114 : zP S4 11 23 = some 48 := fx_p X4 (by decide)
  have z48 : zB S4 48 (0 : Int32).toNatClampNeg = some 51 := (X4.2.2.2.2.1 0 (by decide)).2.1
  have p34 := C4.2.2.2.2.1
  have p04 : zP S4 0 g = some (g+1) := (fx_g X4 hgr).1.2.1
  have b4 := bo_fr hst FW (by omega) (by omega)
  obtain ⟨-, hf⟩ := m_chkE hf
  replace hf := m_calY hf P114
  obtain ⟨-, hf⟩ := m_chkE hf
  obtain ⟨-, hf⟩ := m_chkE hf
  replace hf := m_calY hf z48
  obtain ⟨-, hf⟩ := m_chkE hf
  replace hf := m_calY hf p34
  obtain ⟨-, hf⟩ := m_chkE hf
  replace hf := m_calY hf p04
  obtain ⟨-, hf⟩ := m_chkE hf
  obtain ⟨⟨r9, S9c⟩, h_r9, hf⟩ := m_calE hf
  dsimp only at hf
  obtain ⟨T9, F9, B9⟩ := bo_copy T4 (fx_k X4 (by decide) (by decide)) (X4.2.2.1 1 (by decide)) (fx_k X4 (by decide) (by decide)) b4 h_r9
  dsimp only at T9 F9 B9
  have L9 : LW S9c ch N p := lw_nd L4 T9 F9 (by omega) (by omega)
  have C9 := cs_rd C4 L9 hpN F9 (fun a e => by unfold WRd; omega)
  have e45 : zA S9c 45 = zA S4 45 := (fr_e F9 (fx_l X4 (by decide) (by decide)) (by omega)).2.2.2.2.2.1 (by rw [show zK S4 45 = 14 from fx_k X4 (by decide) (by decide)]; decide)
  have e46 : zA S9c 46 = zA S4 46 := (fr_e F9 (fx_l X4 (by decide) (by decide)) (by omega)).2.2.2.2.2.1 (by rw [show zK S4 46 = 14 from fx_k X4 (by decide) (by decide)]; decide)
  have SK9 : SKs S9c st T [(0, 0)] := ⟨⟨⟨by show (zA S9c 45 0).toInt = _; rw [e45, a454]; rfl, by show (zA S9c 46 0).toInt = _; rw [e46, a464]; rfl⟩, ⟨Nat.le_refl _, Nat.zero_le _⟩, B9, fun e => absurd rfl e⟩, trivial⟩
  obtain ⟨-, hf⟩ := m_chkE hf
  exact rmv_34 mFuel 0 0 S9c p T 0 0 [] 2001 rfl (Nat.zero_le _) rfl (Nat.le_refl _) C9 SK9 hf
end RMV
end
