/-- a text of a position and the position -/
noncomputable def FENo (V : Int → Int) (n : Int) (P : PO) : Prop := FENp V n (om P) (osd P) (ort P) (ops P) (onb P) ∧ MBd (om P) ∧ KU (om P) 0 (okw P) ∧ KU (om P) 1 (okb P) ∧ ∀ s, ¬ (0 ≤ s ∧ s < 64) → om P s = 0
section FNO
variable {V : Int → Int} {n : Int} {P Q : PO} {m : Int → Int} {sd rt ps nb : Int}
theorem fen_u {m' : Int → Int} {sd' rt' ps' nb' : Int} (h : FENp V n m sd rt ps nb) (g : FENp V n m' sd' rt' ps' nb') : m = m' ∧ sd = sd' ∧ rt = rt' ∧ ps = ps' ∧ nb = nb' := by
  obtain ⟨p1, h1, -, h3, -, -, h5, -, -, h7, -, -, -, -, h9, -⟩ := h
  obtain ⟨q1, g1, -, g3, -, -, g5, -, -, g7, -, -, -, -, g9, -⟩ := g
  rw [h1] at g1
  have e := Option.some.inj g1
  have e1 : p1 = q1 := congrArg Prod.fst e
  have e2 : m = m' := congrArg Prod.snd e
  subst e1
  exact ⟨e2, by omega, by rw [h5, g5], by rw [h7, g7], by rw [h9, g9]⟩
theorem ku_u {w k k' : Int} (h : KU m w k) (g : KU m w k') : k = k' := g.2.2.2 k h.1 h.2.1 h.2.2.1
theorem fno_u (h : FENo V n P) (g : FENo V n Q) : P = Q := by
  obtain ⟨h1, -, h3, h4, -⟩ := h
  obtain ⟨g1, -, g3, g4, -⟩ := g
  obtain ⟨e1, e2, e3, e4, e5⟩ := fen_u h1 g1
  rw [← e1] at g3 g4
  have e6 := ku_u h3 g3
  have e7 := ku_u h4 g4
  obtain ⟨a1, a2, a3, a4, a5, a6, a7⟩ := P
  obtain ⟨b1, b2, b3, b4, b5, b6, b7⟩ := Q
  have f1 : a1 = b1 := e1
  have f2 : a2 = b2 := e2
  have f3 : a3 = b3 := e3
  have f4 : a4 = b4 := e4
  have f5 : a7 = b7 := e5
  have f6 : a5 = b5 := e6
  have f7 : a6 = b6 := e7
  subst f1; subst f2; subst f3; subst f4; subst f5; subst f6; subst f7
  rfl
theorem fno_mk {kw kb : Int} (h : FENp V n m sd rt ps nb) (hM : MBd m) (hw : KI m kw 0) (hb : KI m kb 1) (ho : ∀ s, ¬ (0 ≤ s ∧ s < 64) → m s = 0) : FENo V n (m, sd, rt, ps, kw, kb, nb) ∧ PGd (m, sd, rt, ps, kw, kb, nb) ∧ 1 ≤ nb ∧ nb ≤ 999 := by
  obtain ⟨p1, h1, -, h3, -, -, h5, -, -, h7, -, -, -, h8, h9, -, hS⟩ := id h
  have rg := rg_rng (V := V) (p := p1 + 3)
  have hP : POS m sd rt ps kw kb := snd_pos (by omega) hM (by rw [h5]; exact ⟨rg.2.2.1, rg.2.2.2⟩) (by rw [h7]; exact ⟨ps_rng.2.2.1, ps_rng.2.2.2⟩) hw hb hS
  have nn := num_b (V := V) (p := (psV V ((rgV V (p1 + 3)).1 + 1)).1 + 1 + nd3 V ((psV V ((rgV V (p1 + 3)).1 + 1)).1 + 1) + 1)
  exact ⟨⟨h, hM, hP.2.2.1, hP.2.2.2.1, ho⟩, hP, by omega, by omega⟩
/-- which king's square does not matter: there is one -/
theorem fno_ex (h : FENp V n m sd rt ps nb) (hM : MBd m) (ho : ∀ s, ¬ (0 ≤ s ∧ s < 64) → m s = 0) : ∃ kw kb, FENo V n (m, sd, rt, ps, kw, kb, nb) ∧ PGd (m, sd, rt, ps, kw, kb, nb) ∧ 1 ≤ nb ∧ nb ≤ 999 := by
  obtain ⟨p1, h1, -, h3, -, -, h5, -, -, h7, -, -, -, h8, h9, -, hS⟩ := id h
  obtain ⟨-, ⟨k1, a1⟩, ⟨k2, a2⟩, -⟩ := hS
  have ki : ∀ {w k : Int}, KU m w k → KI m k w := fun hk s _ _ _ => ⟨hk.1, hk.2.1, hk.2.2.1⟩
  exact ⟨k1, k2, fno_mk h hM (ki a1) (ki a2) ho⟩
theorem fno_p (h : FENo V n P) : FENp V n (om P) (osd P) (ort P) (ops P) (onb P) := h.1
end FNO
/-- one tag, read at p: the end, the tags, the position with which the game begins -/
noncomputable def TG1 (ch : Int → Int) (N p : Int) (L : List (List Int × List Int)) (st : PO) (r : Int × List (List Int × List Int) × PO) : Prop := ∃ e u w, TPk ch N p e u w ∧ ¬ RF2 L u w ∧ r.1 = e + 1 ∧ r.2.1 = L ++ [(u, w)] ∧ ((u ≠ strL 0 ∧ r.2.2 = st) ∨ (u = strL 0 ∧ FENo (wA w) (w.length : Int) r.2.2))
/-- the tags of a text -/
noncomputable def hdP (ch : Int → Int) (N : Int) : Nat → Int → List (List Int × List Int) → PO → Option (Int × List (List Int × List Int) × PO)
  | 0, _, _, _ => none
  | k + 1, p, L, st => if ch p = 91 then @dite _ (∃ r, TG1 ch N p L st r) (Classical.propDecidable _) (fun h => hdP ch N k (blk ch (Classical.choose h).1) (Classical.choose h).2.1 (Classical.choose h).2.2) (fun _ => none) else some (p, L, st)
section HDS
variable {ch : Int → Int} {N p : Int} {L : List (List Int × List Int)} {st : PO} {k : Nat} {r r' : Int × List (List Int × List Int) × PO}
theorem tg1_u (h : TG1 ch N p L st r) (g : TG1 ch N p L st r') : r = r' := by
  obtain ⟨e, u, w, h1, -, h3, h4, h5⟩ := h
  obtain ⟨e', u', w', g1, -, g3, g4, g5⟩ := g
  obtain ⟨e1, e2, e3⟩ := tpk_u h1 g1
  subst e1; subst e2; subst e3
  obtain ⟨a, b, c⟩ := r
  obtain ⟨a', b', c'⟩ := r'
  have f1 : a = a' := (show a = e + 1 from h3).trans (show a' = e + 1 from g3).symm
  have f2 : b = b' := (show b = _ from h4).trans (show b' = _ from g4).symm
  have f3 : c = c' := by
    rcases h5 with ⟨h6, h7⟩ | ⟨h6, h7⟩ <;> rcases g5 with ⟨g6, g7⟩ | ⟨g6, g7⟩
    · exact (show c = st from h7).trans (show c' = st from g7).symm
    · exact absurd g6 h6
    · exact absurd h6 g6
    · exact fno_u h7 g7
  subst f1; subst f2; subst f3
  rfl
theorem hd_0 (h : ch p ≠ 91) : hdP ch N (k + 1) p L st = some (p, L, st) := if_neg h
theorem hd_y (h : ch p = 91) (hr : TG1 ch N p L st r) : hdP ch N (k + 1) p L st = hdP ch N k (blk ch r.1) r.2.1 r.2.2 := by
  have h2 : ∃ r, TG1 ch N p L st r := ⟨r, hr⟩
  show (if ch p = 91 then _ else _) = _
  rw [if_pos h, dif_pos h2, tg1_u (Classical.choose_spec h2) hr]
theorem hd_n (h : ch p = 91) (hr : ∀ r, ¬ TG1 ch N p L st r) : hdP ch N (k + 1) p L st = none := by
  show (if ch p = 91 then _ else _) = _
  rw [if_pos h, dif_neg (fun ⟨r, g⟩ => hr r g)]
end HDS
theorem wr_b {ch : Int → Int} {a : Int} (h : ∀ i, 0 ≤ ch i ∧ ch i ≤ 127) : ∀ k i, 0 ≤ wA (wr ch a k) i ∧ wA (wr ch a k) i ≤ 127
  | 0, i => by
    rw [wA_out (by show i < 0 ∨ (0 : Int) ≤ i; omega)]
    decide
  | k + 1, i => wA_bd (wr_b h k) (h _) i
/-- names and values are not too long -/
noncomputable def LBd (L : List (List Int × List Int)) : Prop := ∀ i : Int, 0 ≤ i → i < (L.length : Int) → (nmL L i).length ≤ 12 ∧ (vlL L i).length ≤ 96
theorem lbd_a {L : List (List Int × List Int)} {u w : List Int} (h : LBd L) (hu : u.length ≤ 12) (hw : w.length ≤ 96) : LBd (L ++ [(u, w)]) := fun i i0 i1 => by
  rw [List.length_append] at i1
  have i1 : i < ((L.length + 1 : Nat) : Int) := i1
  by_cases e : i = (L.length : Int)
  · rw [e, nmL_n.1, nmL_n.2]; exact ⟨hu, hw⟩
  · obtain ⟨a, b⟩ := nmL_o (L := L) (u := u) (w := w) i0 (show i < (L.length : Int) by omega)
    rw [a, b]; exact h i i0 (by omega)
/-- the class while it reads tags into game g -/
noncomputable def HSt (S0 S : ZS) (g g' : Nat) (ch : Int → Int) (N p : Int) (st : PO) (L : List (List Int × List Int)) (T : TRa) : Prop := CG S ∧ (GG g g' ∧ FIX S0 ∧ FR (fun a => ¬ KPc S0 g' a) S0 S) ∧ (LW S ch N p ∧ p ≤ N ∧ zP S 3 23 = some g) ∧ (TRc S g T ∧ WT T ∧ tn T = 0) ∧ (BO S (g + 1) st ∧ PGd st ∧ 1 ≤ onb st ∧ onb st ≤ 999) ∧ TGk S g L ∧ LBd L
noncomputable def HSn (S0 S : ZS) (g' : Nat) : Prop := CG S ∧ FR (fun a => ¬ KPc S0 g' a) S0 S
section HSS
variable {S0 S S' : ZS} {g g' : Nat} {ch : Int → Int} {N p q : Int} {st st' : PO} {L L' : List (List Int × List Int)} {T : TRa} {W : Nat → Prop} {u w : List Int} {o : Int32 × ZS} {x1 : Int32}
theorem hs_n (h : HSt S0 S g g' ch N p st L T) : HSn S0 S g' := ⟨h.1, h.2.1.2.2⟩
theorem trc_g (hC : CG S) (hg : g = 35 ∨ g = 99) (h : TRc S g T) (h3 : zI S' 3 g = zI S 3 g) (hE : ∀ a, TCl S g a → a ≠ g → EQc S S' a) : TRc S' g T := by
  obtain ⟨h1, h2, h3', h4⟩ := h
  obtain ⟨⟨kg, -⟩, ⟨-, -, k3, k4, -⟩, -⟩ := fx_g hC.2.2.1 hg
  have ng : ∀ i, nk S (g + 3) (g + 5) i ≠ g ∧ nk S (g + 3) (g + 5) i + 1 ≠ g := fun i => ⟨fun e => by
    have := (nk_nd hC hg i).1
    rw [e, kg] at this
    omega, fun e => by
    have := (nk_nd hC hg i).2.2.1
    rw [e, kg] at this
    omega⟩
  have eB : zB S' (g + 5) = zB S (g + 5) := (hE (g + 5) (Or.inr (Or.inr (Or.inr (Or.inl rfl)))) (by omega)).2.2.2.2.1
  have en : ∀ i, nk S' (g + 3) (g + 5) i = nk S (g + 3) (g + 5) i := fun i => by unfold nk; rw [eB]
  have eF : ∀ j, nF S' j (g + 3) (g + 5) = nF S j (g + 3) (g + 5) := fun j => by
    funext i
    unfold nF
    rw [en i, (hE _ (tc_nk i).1 (ng i).1).2.2.1]
  refine ⟨by unfold cn; rw [h3]; exact h1, ⟨fun k k1 k2 => by rw [eB]; exact h2.1 k k1 k2, by rw [eF 3]; exact h2.2⟩, by rw [eF 0, eF 2, eF 3]; exact h3', fun k hk => ?_⟩
  obtain ⟨a1, a2, a3⟩ := h4 k hk
  have e1 := hE _ (tc_nk (S := S) (g := g) k).1 (ng k).1
  have e2 := hE _ (tc_nk (S := S) (g := g) k).2 (ng k).2
  rw [eF 0, eF 1, en k]
  exact ⟨a1, ⟨by rw [e1.2.2.1]; exact a2.1, by rw [e1.2.2.1]; exact a2.2⟩, eqc_rl e2 (nk_nd hC hg k).2.2.1 a3⟩
/-- a step within the reader's own cells -/
theorem hs_rd (h : HSt S0 S g g' ch N p st L T) (hL : LW S' ch N q) (hq : q ≤ N) (hF : FR W S S') (hW : ∀ a, W a → WRd a) : HSt S0 S' g g' ch N q st L T := by
  obtain ⟨c, ⟨hg, hX, hF0⟩, ⟨l, -, p3⟩, ⟨tr, hw, h0⟩, ⟨bo, pg⟩, tg, lb⟩ := h
  have hb : (g = 35 ∧ g' = 99) ∨ (g = 99 ∧ g' = 35) := hg
  have nw : ∀ a, ¬ WRd a → ¬ W a := fun a hn hw => hn (hW a hw)
  have k23 := l.2.1.1
  have kl := fun a h1 h2 => fx_l (a := a) c.2.2.1 h1 h2
  refine ⟨cg_rd c hL.1 hF hW, ⟨hg, hX, fr_t hF0 (fr_m hF (fun a _ ha => kp_fix c hg hF0 hX (by have := hW a ha; unfold WRd at this; omega)))⟩, ⟨hL, hq, ((hF 23 (by rw [k23]; decide)).1.2.2.1 (by rw [k23]; rfl) 3).trans p3⟩, ⟨trc_e c (gg_g hg) tr (fun a ha => fr_e hF (tc_lt c (gg_g hg) ha) (nw a (tc_wr c (gg_g hg) ha))), hw, h0⟩, ⟨bo_fr bo hF (nw _ (by unfold WRd; omega)) (nw _ (by unfold WRd; omega)), pg⟩, tgk_fr c (gg_g hg) tg hF ((fr_e hF (kl g (by omega) (by omega)) (nw _ (by unfold WRd; omega))).2.2.1 5) (nw _ (by unfold WRd; omega)) (fun i t ht => ?_), lb⟩
  have := ((gm_of c (gg_g hg)).2 i t ht).1
  exact ⟨nw _ (by unfold WRd; omega), nw _ (by unfold WRd; omega)⟩
theorem hn_rd (h : HSn S0 S g') (hg : GG g g') (hX : FIX S0) (hT : ZT S') (hF : FR W S S') (hW : ∀ a, W a → WRd a) : HSn S0 S' g' := by
  refine ⟨cg_rd h.1 hT hF hW, fr_t h.2 (fr_m hF (fun a _ ha => kp_fix h.1 hg h.2 hX (by have := hW a ha; unfold WRd at this; omega)))⟩
/-- the tag comes into the game -/
theorem rt_158 (h : HSt S0 S g g' ch N p st L T) (hl : L.length < 8) (hu : RWL S 43 u) (hw : RWL S 44 w) (lu : u.length ≤ 12) (lw : w.length ≤ 96) (cu : ∀ i, 0 ≤ wA u i ∧ wA u i ≤ 127) (cw : ∀ i, 0 ≤ wA w i ∧ wA w i ≤ 127) (hf : d_X2_readTag_158 23 S = some o) : o.1.toInt = 1 ∧ HSt S0 o.2 g g' ch N p st (L ++ [(u, w)]) T := by
  obtain ⟨c, ⟨hg, hX, hF0⟩, ⟨l, hpN, p3⟩, ⟨tr, hw', h0⟩, ⟨bo, pg⟩, tg, lb⟩ := h
  have hb : (g = 35 ∧ g' = 99) ∨ (g = 99 ∧ g' = 35) := hg
  have hgr := gg_g hg
  have p6 : zP S 6 23 = some 43 := fx_p c.2.2.1 (by decide)
  have p7 : zP S 7 23 = some 44 := fx_p c.2.2.1 (by decide)
  have G := gm_of c hgr
  have k23 := l.2.1.1
  unfold d_X2_readTag_158 at hf
  obtain ⟨-, hf⟩ := m_chkE hf
  replace hf := m_calY hf p3
  obtain ⟨-, hf⟩ := m_chkE hf
  replace hf := m_calY hf p6
  obtain ⟨-, hf⟩ := m_chkE hf
  replace hf := m_calY hf p7
  obtain ⟨-, hf⟩ := m_chkE hf
  obtain ⟨⟨r5, S6⟩, h_r5, hf⟩ := m_cal2E hf
  dsimp only at hf
  obtain ⟨C6, K6, F6, i6⟩ := p_putTag c hg tg hl hu hw lu lw (fun i => ⟨(cu i).1, Int.le_trans (cu i).2 (by decide)⟩) (fun i => ⟨(cw i).1, Int.le_trans (cw i).2 (by decide)⟩) h_r5
  dsimp only at C6 K6 F6 i6
  have nt : ∀ a, a ≤ 108 → a ≠ g → a ≠ g + 6 → ¬ TGf S g a := fun a ha n1 n2 => by
    rintro (e | e | ⟨i, t, e1, e2⟩)
    · exact n1 e
    · exact n2 e
    · have := (G.2 i t e1).1
      omega
  obtain ⟨-, hf⟩ := m_chkE hf
  cases hf
  try dsimp only
  refine ⟨rfl, C6, ⟨hg, hX, fr_t hF0 (fr_m F6 (fun a _ ha => ?_))⟩, ⟨lw_nd l C6.1 F6 (nt 2 (by decide) (by omega) (by omega)) (nt 23 (by decide) (by omega) (by omega)), hpN, ((F6 23 (by rw [k23]; decide)).1.2.2.1 (by rw [k23]; rfl) 3).trans p3⟩, ⟨trc_g c hgr tr (i6 3 (by decide)) (fun a ha hne => fr_e F6 (tc_lt c hgr ha) ?_), hw', h0⟩, ⟨bo_fr bo F6 (nt _ (by omega) (by omega) (by omega)) (nt _ (by omega) (by omega) (by omega)), pg⟩, K6, lbd_a lb lu lw⟩
  · rcases ha with e | e | ⟨i, t, e1, e2⟩
    · exact kp_fix c hg hF0 hX (by omega)
    · exact kp_fix c hg hF0 hX (by omega)
    · obtain ⟨-, t1, t2⟩ := kp_tag c hg hF0 hX e1
      rcases e2 with e | e <;> rw [e]
      · exact t1
      · exact t2
  · rintro (e | e | ⟨i, t, e1, e2⟩)
    · exact hne e
    · rcases ha with d | d | d | d | ⟨j, m, d1, d2⟩
      · exact hne d
      · omega
      · omega
      · omega
      · have := (G.1 j m d1).1
        omega
    · obtain ⟨b1, b2, -, -, b5, b6⟩ := G.2 i t e1
      rcases ha with d | d | d | d | ⟨j, m, d1, d2⟩
      · exact hne d
      · omega
      · omega
      · omega
      · obtain ⟨m1, m2, -, m4⟩ := G.1 j m d1
        rcases d2 with d | d <;> rcases e2 with e | e
        · rw [← d, e, b5] at m2; omega
        · rw [← d, e, b6] at m2; omega
        · have : m = t := by omega
          rw [this, b2] at m2; omega
        · have : m = t + 1 := by omega
          rw [this, b5] at m2; omega
end HSS
