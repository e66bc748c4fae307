section CMM
variable {S0 S S' : ZS} {g g' k : Nat} {ch : Int → Int} {N p q : Int} {st : PO} {T : TRa} {o : Int32 × ZS}
/-- the marks of node k are read -/
theorem cs_mm (h : CSt S0 S g g' ch N p st T) (hk : k ≤ tn T) (hK : tK T k = []) (hf : f_X2_readMarks 23 (nk S (g + 3) (g + 5) k) S = some o) : (∃ e K, mkP ch p = some (e, K) ∧ o.1.toInt = 1 ∧ CSt S0 o.2 g g' ch N e st (mkT T k K) ∧ FR (fun a => a = 23 ∨ a = nk S (g + 3) (g + 5) k) S o.2) ∨ (mkP ch p = none ∧ o.1.toInt = 0 ∧ CSn S0 o.2 g g') := by
  obtain ⟨c, ⟨hg, hX, hF0⟩, l, hpN, p3, tr, ⟨hw, hl⟩, i5⟩ := id h
  have hgr := gg_g hg
  have kk := (nk_nd c hgr k).1
  have hm : NMk S (nk S (g + 3) (g + 5) k) [] := by rw [← hK]; exact (tr.2.2.2 k hk).2.1
  have hb : (g = 35 ∧ g' = 99) ∨ (g = 99 ∧ g' = 35) := hg
  have n1 := fun a h1 h2 h3 h4 => (nk_ne c hgr k (a := a) h1 h2 h3 h4).1
  have cg' : ZT o.2 → FR (fun a => a = 23 ∨ a = nk S (g + 3) (g + 5) k) S o.2 → LKs S o.2 (nk S (g + 3) (g + 5) k) → CG o.2 := fun hT' hF hL => cg_w c hT' (tz_k c.1 c.2.1 hF (fun a _ e => by
    rcases e with e | e
    · rw [e, l.2.1.1]; exact ⟨by decide, by decide, fun e => absurd e (by decide)⟩
    · rw [e, kk]; exact ⟨by decide, by decide, fun _ => ⟨hL 0 (by decide) (by decide), hL 2 (by decide) (by decide), hL 3 (by decide) (by decide)⟩⟩)) hF (by rintro (e | e); omega; exact n1 40 (by decide) (by decide) (by omega) (by omega) e.symm) (by rintro (e | e); omega; exact n1 41 (by decide) (by decide) (by omega) (by omega) e.symm) (by rintro (e | e); omega; exact n1 104 (by decide) (by decide) (by omega) (by omega) e.symm) (by rintro (e | e); omega; exact n1 105 (by decide) (by decide) (by omega) (by omega) e.symm)
  have wk : ∀ a, zK S a < 18 → (a = 23 ∨ a = nk S (g + 3) (g + 5) k) → ¬ KPm S0 g g' a := fun a _ e => e.elim (fun e => km_fix c hg hF0 hX (by omega)) (fun e => by rw [e]; exact km_tc c hg hF0 hX (tc_nk k).1)
  have g5 : ∀ hF : FR (fun a => a = 23 ∨ a = nk S (g + 3) (g + 5) k) S o.2, zI o.2 5 g = zI S 5 g := fun hF => (fr_e hF (fx_l c.2.2.1 (by omega) (by omega)) (by rintro (e | e); omega; exact n1 g (by omega) (by omega) (by omega) (by omega) e.symm)).2.2.1 5
  rcases p_readMarks l hpN kk hm hf with ⟨e, K, a1, a2, a3, a4, a5, a6, a7, a8⟩ | ⟨a1, a2, ⟨p', a3⟩, a4, a5⟩
  · have tr' : TRc o.2 g (mkT T k K) := trc_mk c hg tr hk (fun a ha hne => fr_e a6 (tc_lt c hgr ha) (by
      rintro (e | e)
      · exact tc_wr c hgr ha (by unfold WRd; omega)
      · exact hne e)) a8 a7
    exact Or.inl ⟨e, K, a1, a2, cs_mk h (cg' a5.1 a6 a8) a6 wk (g5 a6) a5 a4 tr' (wt_mk hw (by omega)) hl, a6⟩
  · exact Or.inr ⟨a1, a2, cn_mk (cs_n h) (cg' a3.1 a4 a5) a4 wk (g5 a4)⟩
end CMM
/-- an open line of the class: its root, its last node, the boards before and behind that one -/
noncomputable def SK1 (S : ZS) (st : PO) (T : TRa) (d ro la : Nat) : Prop := ((zA S 45 d).toInt = (ro : Int) ∧ (zA S 46 d).toInt = (la : Int)) ∧ (ro ≤ la ∧ la ≤ tn T) ∧ BO S (51 + 4 * d) (posT st T la) ∧ (la ≠ ro → BO S (49 + 4 * d) (posT st T (tP T la).toNat))
noncomputable def SKs (S : ZS) (st : PO) (T : TRa) : List (Nat × Nat) → Prop
  | [] => True
  | (ro, la) :: rest => SK1 S st T rest.length ro la ∧ SKs S st T rest
section SKL
variable {S S' : ZS} {st : PO} {T T' : TRa} {W : Nat → Prop} {d ro la : Nat}
theorem sk1_fr (h : SK1 S st T d ro la) (hF : FR W S S') (hW : ¬ W (49 + 4 * d) ∧ ¬ W (50 + 4 * d) ∧ ¬ W (51 + 4 * d) ∧ ¬ W (52 + 4 * d)) (h45 : zA S' 45 d = zA S 45 d) (h46 : zA S' 46 d = zA S 46 d) : SK1 S' st T d ro la := by
  obtain ⟨⟨h1, h2⟩, h3, h4, h5⟩ := h
  have e1 : 49 + 4 * d + 1 = 50 + 4 * d := by omega
  have e2 : 51 + 4 * d + 1 = 52 + 4 * d := by omega
  exact ⟨⟨by rw [h45]; exact h1, by rw [h46]; exact h2⟩, h3, bo_fr h4 hF hW.2.2.1 (by rw [e2]; exact hW.2.2.2), fun hne => bo_fr (h5 hne) hF hW.1 (by rw [e1]; exact hW.2.1)⟩
theorem sk1_T (hw : WT T) (h : SK1 S st T d ro la) (hn : tn T ≤ tn T') (hP : ∀ k, k ≤ tn T → tP T' k = tP T k) (hM : ∀ k, k ≤ tn T → tM T' k = tM T k) : SK1 S st T' d ro la := by
  obtain ⟨h1, h3, h4, h5⟩ := h
  refine ⟨h1, ⟨h3.1, by omega⟩, by rw [posT_c hw hP hM h3.2]; exact h4, fun hne => ?_⟩
  have hb := (hw.2.1 la (by omega) h3.2).1
  rw [hP la h3.2, posT_c hw hP hM (by omega)]
  exact h5 hne
theorem sks_fr {D : Nat} (hF : FR W S S') (hW : ∀ d, d < D → ¬ W (49 + 4 * d) ∧ ¬ W (50 + 4 * d) ∧ ¬ W (51 + 4 * d) ∧ ¬ W (52 + 4 * d)) (hA : ∀ d, d < D → zA S' 45 d = zA S 45 d ∧ zA S' 46 d = zA S 46 d) : ∀ (l : List (Nat × Nat)), l.length ≤ D → SKs S st T l → SKs S' st T l
  | [], _, _ => trivial
  | (ro, la) :: rest, hl, h => by
    have hl' : rest.length + 1 ≤ D := hl
    exact ⟨sk1_fr h.1 hF (hW _ (by omega)) (hA _ (by omega)).1 (hA _ (by omega)).2, sks_fr hF hW hA rest (by omega) h.2⟩
theorem sks_T (hw : WT T) (hn : tn T ≤ tn T') (hP : ∀ k, k ≤ tn T → tP T' k = tP T k) (hM : ∀ k, k ≤ tn T → tM T' k = tM T k) : ∀ (l : List (Nat × Nat)), SKs S st T l → SKs S st T' l
  | [], _ => trivial
  | (_, _) :: rest, h => ⟨sk1_T hw h.1 hn hP hM, sks_T hw hn hP hM rest h.2⟩
/-- a step that touches no stack cell -/
theorem sks_0 (hC : CG S) (hF : FR W S S') (hW : ∀ a, (45 ≤ a ∧ a ≤ 46) ∨ (49 ≤ a ∧ a ≤ 76) → ¬ W a) (l : List (Nat × Nat)) (hl : l.length ≤ 7) (h : SKs S st T l) : SKs S' st T l := by
  have l45 := fx_l (a := 45) hC.2.2.1 (by decide) (by decide)
  have l46 := fx_l (a := 46) hC.2.2.1 (by decide) (by decide)
  have k45 : zK S 45 = 14 := fx_k hC.2.2.1 (by decide) (by decide)
  have k46 : zK S 46 = 14 := fx_k hC.2.2.1 (by decide) (by decide)
  have e45 := (fr_e hF l45 (hW 45 (by omega))).2.2.2.2.2.1 (by rw [k45]; decide)
  have e46 := (fr_e hF l46 (hW 46 (by omega))).2.2.2.2.2.1 (by rw [k46]; decide)
  exact sks_fr (D := 7) hF (fun d hd => ⟨hW _ (by omega), hW _ (by omega), hW _ (by omega), hW _ (by omega)⟩) (fun d _ => ⟨by rw [e45], by rw [e46]⟩) l hl h
/-- the reader of signs and a board -/
theorem srr_of {bb : Nat} {P : PO} (hC : CG S) (hb : BO S bb P) (hG : PGd P) (hn : 0 ≤ onb P ∧ onb P ≤ 99999) (h1 : bb ≠ 26 ∧ bb ≠ 28) : SRr S 24 25 30 31 26 28 bb (om P) (osd P) (ort P) (ops P) (okw P) (okb P) := by
  have hx := hC.2.2.1
  have k := fun a h1 h2 => fx_k (a := a) hx h1 h2
  obtain ⟨⟨k0, p0, k1⟩, hm, h3, h4, h5, i1, i2, h6⟩ := hb
  have hs := hG.1
  have nb : ∀ a, (a = 31 ∨ a = 27 ∨ a = 29) → zK S a = 14 := fun a ha => by
    rcases ha with e | e | e <;> subst e
    · exact k 31 (by decide) (by decide)
    · exact k 27 (by decide) (by decide)
    · exact k 29 (by decide) (by decide)
  have n31 : (31 : Nat) ≠ bb + 1 := fun e => by
    have : bb = 30 := by omega
    rw [this, show zK S 30 = 6 from k 30 (by decide) (by decide)] at k0
    omega
  refine ⟨⟨⟨hC.1, ⟨k 25 (by decide) (by decide), fx_p hx (by decide)⟩, ⟨k 26 (by decide) (by decide), fx_p hx (by decide)⟩, ⟨k0, p0⟩, h1.1, ?_, hm, h3, h4, h5, i1, i2⟩, ⟨fx_p hx (by decide), k 28 (by decide) (by decide), fx_p hx (by decide)⟩, ⟨fun e => h1.2 e.symm, by decide⟩, by omega⟩, ⟨k 24 (by decide) (by decide), fx_p hx (by decide), fx_p hx (by decide), fx_p hx (by decide)⟩, ⟨k 30 (by decide) (by decide), by decide⟩, ⟨k 31 (by decide) (by decide), hx.2.2.2.2.2.2.2.1⟩, ⟨nb 27 (by omega), nb 29 (by omega), k1⟩, by decide, by decide, n31⟩
  unfold BN
  omega
end SKL
