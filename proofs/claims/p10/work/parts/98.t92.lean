/-- the class's cells, without what the totality keeps -/
noncomputable def CGx (S : ZS) : Prop := FIX S ∧ GM S 35 ∧ GM S 99 ∧ TDX S
/-- the class between two calls: its cells, and which game is read into, which one stands -/
noncomputable def SC (S : ZS) : Prop := CGx S ∧ ∃ g g', GG g g' ∧ zP S 3 23 = some g ∧ zP S 7 1 = some g'
section SIM
variable {S S' : ZS} {g g' : Nat} {ch : Int → Int} {N : Int} {I I' : Nat → Int32} {A A' : Nat → Nat → Int32} {W V : List (Nat × Nat)} {Q : Nat → Prop}
theorem cg_of (hT : ZT S) (hZ : TZ S) (h : CGx S) : CG S := ⟨hT, hZ, h.1, h.2.1, h.2.2.1, h.2.2.2⟩
theorem cg_x (h : CG S) : CGx S := ⟨h.2.2.1, h.2.2.2.1, h.2.2.2.2.1, h.2.2.2.2.2⟩
theorem cgx_g (h : CGx S) (hg : g = 35 ∨ g = 99) : GM S g := by
  rcases hg with e | e
  · rw [e]; exact h.2.1
  · rw [e]; exact h.2.2.1
theorem cgx_z (h : CGx S) (hF : Fh S) (f : FrZ W V [] S S') (hV : ∀ z ∈ V, z.1 = 6) : CGx S' := by
  have g := (f hF).2.2
  obtain ⟨hX, h35, h99, hd⟩ := h
  have nv : ∀ a j, zK S a ≠ 6 → (zK S a, j) ∉ V := fun a j hn hm => hn (hV _ hm)
  have l := fun a h1 h2 => fx_l (a := a) hX h1 h2
  have P' : ∀ a j, zK S a < 18 → zK S a ≠ 6 → zP S' j a = zP S j a := fun a j ha hn => (g a ha).2.2.2.1 j (nv a j hn)
  have B' : ∀ a, zK S a < 18 → zB S' a = zB S a := fun a ha => (g a ha).2.2.2.2 (fun hm => by cases hm)
  have b40 := B' 40 (l 40 (by decide) (by decide))
  have b41 := B' 41 (l 41 (by decide) (by decide))
  have b104 := B' 104 (l 104 (by decide) (by decide))
  have b105 := B' 105 (l 105 (by decide) (by decide))
  have gm : ∀ q, GM S q → zB S' (q + 5) = zB S (q + 5) → zB S' (q + 6) = zB S (q + 6) → GM S' q := fun q hm e5 e6 => by
    refine ⟨fun i a ha => ?_, fun i a ha => ?_⟩
    · rw [e5] at ha
      obtain ⟨a1, a2, a3, a4⟩ := hm.1 i a ha
      exact ⟨a1, (g a (by rw [a2]; decide)).1.trans a2, (P' a 6 (by rw [a2]; decide) (by rw [a2]; decide)).trans a3, (g (a + 1) (by rw [a4]; decide)).1.trans a4⟩
    · rw [e6] at ha
      obtain ⟨a1, a2, a3, a4, a5, a6⟩ := hm.2 i a ha
      exact ⟨a1, (g a (by rw [a2]; decide)).1.trans a2, (P' a 0 (by rw [a2]; decide) (by rw [a2]; decide)).trans a3, (P' a 1 (by rw [a2]; decide) (by rw [a2]; decide)).trans a4, (g (a + 1) (by rw [a5]; decide)).1.trans a5, (g (a + 2) (by rw [a6]; decide)).1.trans a6⟩
  refine ⟨⟨fun a h1 h2 => (g a (l a h1 h2)).1.trans (hX.1 a h1 h2), fun t ht => ?_, fun d hd => ?_, fun d hd => ?_, fun d hd => ?_, ?_⟩, gm 35 h35 b40 b41, gm 99 h99 b104 b105, fun q q' hq => ?_⟩
  · obtain ⟨t1, t2, t3⟩ := fx_vp t ht
    rw [P' t.1 t.2.1 (l _ t1 t2) (fun e => by rw [hX.1 _ t1 t2] at e; rw [e] at t3; cases t3)]
    exact hX.2.1 t ht
  · rw [P' _ 0 (l (49 + 2 * d) (by omega) (by omega)) (by rw [hX.1 _ (by omega) (by omega), (fx_bk d hd).1]; decide)]
    exact hX.2.2.1 d hd
  · rw [P' _ 0 (l (85 + 2 * d) (by omega) (by omega)) (by rw [hX.1 _ (by omega) (by omega), (fx_wk d hd).1]; decide)]
    exact hX.2.2.2.1 d hd
  · rw [B' 47 (l 47 (by decide) (by decide)), B' 48 (l 48 (by decide) (by decide)), B' 84 (l 84 (by decide) (by decide))]
    exact hX.2.2.2.2.1 d hd
  · have e := fun a h1 h2 => (g a (l a h1 h2)).2.1
    rw [e 45 (by decide) (by decide), e 46 (by decide) (by decide), e 31 (by decide) (by decide), e 16 (by decide) (by decide)]
    exact hX.2.2.2.2.2
  · rcases hq with ⟨e1, e2⟩ | ⟨e1, e2⟩
    · rw [e1, e2, b41, b105]
      exact hd 35 99 (Or.inl ⟨rfl, rfl⟩)
    · rw [e1, e2, b41, b105]
      exact hd 99 35 (Or.inr ⟨rfl, rfl⟩)
/-- what is told by kinds, ints, references and arrays alone -/
theorem sc_c (hK : zK S' = zK S) (hP : zP S' = zP S) (hN : zN S' = zN S) (hB : zB S' = zB S) (h : SC S) : SC S' := by
  unfold SC CGx FIX GM TDX at h ⊢
  simp only [hK, hP, hN, hB]
  exact h
theorem sc_q (h : SC S) : SC (zsQ S) := sc_c (S := S) rfl rfl rfl rfl h
theorem sc_z (h : SC S) (hT : ZT S) (f : FrZ W V [] S S') (hV : ∀ z ∈ V, z.1 = 6) : SC S' := by
  have q := (f hT.2.2.2.2.1).2.2
  obtain ⟨hx, g, g', h1, h2, h3⟩ := h
  have k23 : zK S 23 = 2 := fx_k hx.1 (by decide) (by decide)
  have k1 : zK S 1 = 11 := fx_k hx.1 (by decide) (by decide)
  refine ⟨cgx_z hx hT.2.2.2.2.1 f hV, g, g', h1, ?_, ?_⟩
  · rw [(q 23 (by rw [k23]; decide)).2.2.2.1 3 (fun hm => by have := hV _ hm; rw [k23] at this; cases this)]
    exact h2
  · rw [(q 1 (by rw [k1]; decide)).2.2.2.1 7 (fun hm => by have := hV _ hm; rw [k1] at this; cases this)]
    exact h3
theorem sc_fr (h : SC S) (hC : CGx S') (hF : FR Q S S') : SC S' := by
  obtain ⟨hx, g, g', h1, h2, h3⟩ := h
  have k23 : zK S 23 = 2 := fx_k hx.1 (by decide) (by decide)
  have k1 : zK S 1 = 11 := fx_k hx.1 (by decide) (by decide)
  exact ⟨hC, g, g', h1, ((hF 23 (by rw [k23]; decide)).1.2.2.1 (by rw [k23]; rfl) 3).trans h2, ((hF 1 (by rw [k1]; decide)).1.2.2.1 (by rw [k1]; rfl) 7).trans h3⟩
/-- the class's text stays -/
theorem tx_xr (hk : zK S 2 = 6) (h : TXc S ch N) (hx : XR S S') : TXc S' ch N := by
  obtain ⟨x1, x2, x3, x4⟩ := hx 2 hk (by decide)
  obtain ⟨h1, h2, h3, h4⟩ := h
  refine ⟨?_, by rw [x2]; exact h2, h3, h4⟩
  rw [← h1]
  funext i
  unfold rwC
  rw [x2, x3]
  cases e : zP S 0 2 with
  | none => rfl
  | some b => simp only [(x4 b e).2]
theorem tx_eq (hk : zK S 2 = 6) (h : TXc S ch N) (e : EQc S S' 2) : TXc S' ch N := by
  obtain ⟨h1, h2, h3, h4⟩ := h
  exact ⟨(eqc_rw e hk).trans h1, by rw [e.2.2.1]; exact h2, h3, h4⟩
theorem tr_0 (h : (I 1).toInt = 0) : txR I A = fun _ => 0 := by
  funext i
  unfold txR
  rw [if_neg (by omega)]
theorem wA_7 {w : List Int} (h : ∀ c ∈ w, 0 ≤ c ∧ c ≤ 127) (i : Int) : 0 ≤ wA w i ∧ wA w i ≤ 127 := by
  by_cases c : 0 ≤ i ∧ i < (w.length : Int)
  · obtain ⟨k, rfl⟩ : ∃ k : Nat, i = (k : Int) := ⟨i.toNat, by omega⟩
    rw [wA_in (show k < w.length by omega)]
    exact h _ (List.getElem_mem _)
  · rw [wA_out (by omega)]; omega
theorem wA_m {w : List Int} (h : ∀ i, 0 ≤ wA w i ∧ wA w i ≤ 127) : ∀ c ∈ w, 0 ≤ c ∧ c ≤ 127 := fun c hc => by
  obtain ⟨k, hk, e⟩ := List.mem_iff_getElem.1 hc
  rw [← e, ← wA_in hk]
  exact h _
theorem bys_b {x : Int64} {n : Int} (h : GBs x n) (hn : n ≤ 8) : ∀ k : Nat, (k : Int) ≤ n → ∀ c ∈ bys x k, 0 ≤ c ∧ c ≤ 127
  | 0, _ => fun c hc => by cases hc
  | k + 1, hk => fun c hc => by
    have hc : c ∈ bys x k ++ [(tyB x (Int32.ofInt (k : Int))).toInt] := hc
    rcases List.mem_append.1 hc with hc | hc
    · exact bys_b h hn k (by omega) c hc
    · rw [List.mem_singleton.1 hc]
      have e8 : ∀ k : Nat, k < 8 → (Int32.ofInt (k : Int)).toInt = (k : Int) := by decide
      have e := e8 k (by omega)
      have q := h (Int32.ofInt (k : Int)) (by omega) (by omega)
      unfold GBy at q
      omega
theorem tx_mk {w : List Int} (hr : RWL S 2 w) (ht : TXl I A w) (hl : w.length ≤ 2000) (hb : ∀ c ∈ w, 0 ≤ c ∧ c ≤ 127) : TXc S (txR I A) (I 1).toInt :=
  ⟨funext fun i => by rw [hr.2 i, ht.2 i], by rw [hr.1, ht.1], by rw [ht.1]; omega, fun i => by rw [ht.2 i]; exact wA_7 hb i⟩
/-- both sides between two calls, as far as the text goes -/
noncomputable def SM (I : Nat → Int32) (A : Nat → Nat → Int32) (S : ZS) : Prop := SC S ∧ TXc S (txR I A) (I 1).toInt
theorem sm_z (hs : SM I A S) (hT : ZT S) (f : FrZ W V [] S S') (hV : ∀ z ∈ V, z.1 = 6) (hx : XR S S') (h1 : I' 1 = I 1) (h2 : A' 2 = A 2) : SM I' A' S' :=
  ⟨sc_z hs.1 hT f hV, by rw [tx_fr h1 h2, h1]; exact tx_xr (fx_k hs.1.1.1 (by decide) (by decide)) hs.2 hx⟩
theorem sm_x (hs : SM I A S) (hc : SC S') (hx : XR S S') (h1 : I' 1 = I 1) (h2 : A' 2 = A 2) : SM I' A' S' :=
  ⟨hc, by rw [tx_fr h1 h2, h1]; exact tx_xr (fx_k hs.1.1.1 (by decide) (by decide)) hs.2 hx⟩
theorem sm_c (hK : zK S' = zK S) (hI : zI S' = zI S) (hP : zP S' = zP S) (hN : zN S' = zN S) (hA : zA S' = zA S) (hB : zB S' = zB S) (h : SM I A S) : SM I A S' := by
  refine ⟨sc_c hK hP hN hB h.1, ?_⟩
  have h2 := h.2
  unfold TXc rwC at h2 ⊢
  simp only [hI, hP, hA]
  exact h2
theorem sm_type {x : Int64} {x3 : Int32} {o2 : Int32 × MS} {o : Int32 × ZS} (hC : CG S) (hs : SM I A S) (h2 : f_type x x3 I A = some o2) (ho : d_X11_type 1 x x3 S = some o) : o.1 = o2.1 ∧ SM o2.2.1 o2.2.2 o.2 := by
  obtain ⟨w, hw, hl, hcw⟩ := tx_l hC hs.2
  have tl : TXl I A w := ⟨hl.symm, fun i => (hcw i).symm⟩
  have wb := hs.2.2.2
  have wl : w.length ≤ 2000 := by omega
  have hb : ∀ c ∈ w, 0 ≤ c ∧ c ≤ 127 := wA_m (fun i => by rw [hcw i]; exact wb.2 i)
  rcases p_type hC hw ho with ⟨a1, a2, a3, a4, a5⟩ | ⟨a1, a2, a3⟩
  · rcases v_type tl wl h2 with ⟨b1, b2, b3⟩ | ⟨b1, -⟩
    · refine ⟨Int32.toInt_inj.1 (a2.trans b2.symm), sc_fr hs.1 (cg_x a3) a5, ?_⟩
      obtain ⟨⟨n1, n2⟩, n3, n4⟩ := a1
      refine tx_mk a4 b3 ?_ (fun c hc => ?_)
      · rw [List.length_append, bys_l]; omega
      · rcases List.mem_append.1 hc with hc | hc
        · exact hb c hc
        · exact bys_b n4 n2 _ (by omega) c hc
    · exact absurd a1 b1
  · rcases v_type tl wl h2 with ⟨b1, -⟩ | ⟨b1, b2, b3⟩
    · exact absurd b1 a1
    · refine ⟨Int32.toInt_inj.1 (a2.trans b2.symm), ?_⟩
      rw [a3]
      exact ⟨hs.1, tx_mk hw b3 wl hb⟩
theorem sm_cut {x1 : Int32} {o2 : Int32 × MS} {o : Int32 × ZS} (hC : CG S) (hs : SM I A S) (h2 : f_cut x1 I A = some o2) (ho : f_X11_cut 1 x1 S = some o) : o.1 = o2.1 ∧ SM o2.2.1 o2.2.2 o.2 := by
  rcases p_cut hC hs.2 ho with ⟨a1, a2, a3, a4, a5⟩ | ⟨a1, a2, a3⟩
  · rcases v_cut rfl rfl h2 with ⟨b1, b2, b3, b4⟩ | ⟨b1, -⟩
    · exact ⟨Int32.toInt_inj.1 (a2.trans b2.symm), sc_fr hs.1 (cg_x a3) a5, by rw [b3, b4]; exact a4⟩
    · exact absurd a1 b1
  · rcases v_cut rfl rfl h2 with ⟨b1, -⟩ | ⟨b1, b2, b3, b4⟩
    · exact absurd b1 a1
    · refine ⟨Int32.toInt_inj.1 (a2.trans b2.symm), ?_⟩
      rw [a3]
      exact ⟨hs.1, by rw [b3, b4]; exact hs.2⟩
theorem sm_say {o2 : Int32 × MS} {o : (Nat × Int32) × ZS} (hC : CG S) (hs : SM I A S) (h2 : f_say I A = some o2) (ho : d_X11_say 1 S = some o) : (o.1.1 = 0 ∧ (o2.2.1 0).toInt = 0 ∧ o.1.2 = o2.1 ∧ SM o2.2.1 o2.2.2 o.2) ∨ (o.1.1 = 1 ∧ (o2.2.1 0).toInt = 1 ∧ o2.1.toInt = 0 ∧ o.2 = zsQ S ∧ SM o2.2.1 o2.2.2 S) := by
  obtain ⟨g, g', hg, p3, p7⟩ := hs.1.2
  have wb := hs.2.2.2
  rcases p_say hC (gg_g (gg_s hg)) p7 hs.2 ho with ⟨a1, a2, a3, a4, a5, a6, -⟩ | ⟨a1, a2, a3⟩
  · rcases v_say rfl rfl wb.1 h2 with ⟨b1, b2, b3, b4⟩ | ⟨b1, -⟩
    · exact Or.inl ⟨a2, b3, Int32.toInt_inj.1 (by rw [a3, b2]), sc_fr hs.1 (cg_x a4) a6, by rw [tr_0 b4, b4]; exact a5⟩
    · exact absurd a1 b1
  · rcases v_say rfl rfl wb.1 h2 with ⟨b1, -⟩ | ⟨b1, b2, b3, b4⟩
    · exact absurd b1 a1
    · exact Or.inr ⟨a2, b3, b2, a3, hs.1, by rw [tx_fr b4 ((fw_say h2).2 2 (by decide)), b4]; exact hs.2⟩
theorem sm_read {o2 : Int32 × MS} {o : Int32 × ZS} (hC : CG S) (hI : TJ I) (hA : TK A) (hs : SM I A S) (h2 : f_read I A = some o2) (ho : d_X11_read 1 S = some o) : SM o2.2.1 o2.2.2 o.2 := by
  obtain ⟨g, g', hg, p3, p7⟩ := hs.1.2
  have wb := hs.2.2.2
  have b5 : 0 ≤ (I 5).toInt ∧ (I 5).toInt ≤ 1 := hI 5
  rcases p_read hC hg p3 p7 hs.2 ho with ⟨L, st, T, r, a1, a2, a3, a4, a5, a6, -⟩ | ⟨a1, a2, a3⟩
  · rcases v_read (g := 1 - (I 5).toInt.toNat) hI hA rfl rfl wb.1 wb.2 (by omega) (by omega) h2 with ⟨L', st', T', r', b1, b2, b3, -⟩ | ⟨b1, -⟩
    · exact ⟨⟨cg_x a3, g', g, gg_s hg, a4, a5⟩, by rw [tr_0 b3, b3]; exact a6⟩
    · rw [a1] at b1; cases b1
  · rcases v_read (g := 1 - (I 5).toInt.toNat) hI hA rfl rfl wb.1 wb.2 (by omega) (by omega) h2 with ⟨L', st', T', r', b1, -⟩ | ⟨b1, b2, b3, b4, -⟩
    · rw [a1] at b1; cases b1
    · have k2 : zK S 2 = 6 := fx_k hs.1.1.1 (by decide) (by decide)
      have k23 : zK S 23 = 2 := fx_k hs.1.1.1 (by decide) (by decide)
      have k1 : zK S 1 = 11 := fx_k hs.1.1.1 (by decide) (by decide)
      have e1 : EQc S (zsP S 2 23 (some 2)) 1 := eqc_P rfl (by decide)
      have e2 : EQc S (zsP S 2 23 (some 2)) 2 := eqc_P rfl (by decide)
      have e3 : zP (zsP S 2 23 (some 2)) 3 23 = zP S 3 23 := by
        show va_up (zP S) 2 (va_up (zP S 2) 23 (some 2)) 3 23 = zP S 3 23
        rw [va_up_ne _ _ (by decide)]
      refine ⟨⟨cg_x a2, g, g', hg, ?_, ?_⟩, ?_⟩
      · have q := (a3 23 (by show zK S 23 < 18; rw [k23]; decide)).1.2.2.1 (by show vPk (zK S 23) = false; rw [k23]; rfl) 3
        rw [q, e3]; exact p3
      · have q := (a3 1 (by show zK S 1 < 18; rw [k1]; decide)).1.2.2.1 (by show vPk (zK S 1) = false; rw [k1]; rfl) 7
        rw [q, e1.2.2.2.1]; exact p7
      · rw [tx_fr b3 b4, b3]
        exact tx_eq (show zK (zsP S 2 23 (some 2)) 2 = 6 from k2) (tx_eq k2 hs.2 e2) (fr_e a3 (by show zK S 2 < 18; rw [k2]; decide) (fun hn => hn (Or.inl ⟨by decide, by decide⟩)))
end SIM
