section R3R
variable {S S' : ZS} {g g' k c : Nat} {I I' : Nat → Int32} {A A' : Nat → Nat → Int32} {st : PO} {w : List Int} {o : Int32 × ZS}
theorem r3_fin {S25 : ZS} (hg : GG g g') (C24 : CG S) (bos : BO S (g + 1) st) (e25 : S25 = zsP S 7 1 (some g)) (hw : RWL S 3 w) (hf : RDF S25 = some o) : RWL o.2 3 w := by
  have hb : (g = 35 ∧ g' = 99) ∨ (g = 99 ∧ g' = 35) := hg
  have hgr := gg_g hg
  have k1 : zK S 1 = 11 := fx_k C24.2.2.1 (by decide) (by decide)
  have kg : zK S g = 1 := (fx_g C24.2.2.1 hgr).1.1
  have T25 : ZT S25 := e25.symm ▸ zt_P C24.1 k1 (by decide) (Or.inr ⟨kg, rfl⟩) (by rcases hb with ⟨ee, -⟩ | ⟨ee, -⟩ <;> rw [ee] <;> decide)
  have C25 : CG S25 := cg_7 C24 T25 e25
  have w25 : RWL S25 3 w := eqc_rl (eqc_P e25 (show (3 : Nat) ≠ 1 by decide)) (r3_k C24) hw
  have b25 : BO S25 (g + 1) st := bo_e bos (eqc_P e25 (by omega)) (eqc_P e25 (by omega))
  have p725 : zP S25 7 1 = some g := by
    rw [e25]
    show va_up (zP S) 7 (va_up (zP S 7) 1 (some g)) 7 1 = some g
    rw [va_up_self, va_up_self]
  have k125 : zK S25 1 = 11 := fx_k C25.2.2.1 (by decide) (by decide)
  have k225 : zK S25 2 = 6 := fx_k C25.2.2.1 (by decide) (by decide)
  unfold RDF at hf
  obtain ⟨-, hf⟩ := m_chkE hf
  replace hf := m_calY hf (show zP S25 0 1 = some 2 from fx_p C25.2.2.1 (by decide))
  obtain ⟨-, hf⟩ := m_chkE hf
  obtain ⟨⟨r27, S27⟩, h_r27, hf⟩ := m_calE hf
  dsimp only at hf
  obtain ⟨w2, hw2⟩ := rwl_ex T25 k225
  obtain ⟨a1, a2, a3⟩ := p_keep hw2 (show (0 : Int) ≤ (0 : Int32).toInt by decide) h_r27
  have T27 : ZT S27 := by
    rcases a3 with a3 | a3
    · rw [a3]; exact T25
    · rw [a3]
      exact zt_I0 T25 k225 (fun _ => ⟨show (0 : Int) ≤ (0 : Int32).toInt by decide, show (0 : Int32).toInt ≤ _ by rw [hw2.1]; exact Int.natCast_nonneg _⟩) (fun e => absurd e.1 (by decide)) (tf_b _)
  have F27 : FR (fun a => a = 2) S25 S27 := fr_r a2 k225
  have k127 : zK S27 1 = 11 := (fr_k F27 (by rw [k125]; decide)).trans k125
  obtain ⟨-, hf⟩ := m_chkE hf
  obtain ⟨-, hf⟩ := m_chkE hf
  obtain ⟨S28, e28, hf⟩ := m_bndE hf
  have T28 : ZT S28 := e28.symm ▸ zt_I T27 k127 (by decide) (show (0 : Int) ≤ (0 : Int32).toInt ∧ (0 : Int32).toInt ≤ (300 : Int) by decide)
  have F28 : FR (fun a => a = 2 ∨ a = 1) S25 S28 := fr_t (fr_m F27 (fun a _ e => Or.inl e)) (fr_m (fr_I e28) (fun a _ e => Or.inr e))
  have Z28 : TZ S28 := tz_k T25 C25.2.1 F28 (fun a _ e => by
    rcases e with e | e <;> rw [e]
    · rw [k225]; exact ⟨by decide, by decide, fun h => absurd h (by decide)⟩
    · rw [k125]; exact ⟨by decide, by decide, fun h => absurd h (by decide)⟩)
  have C28 : CG S28 := cg_w C25 T28 Z28 F28 (by decide) (by decide) (by decide) (by decide)
  have w28 : RWL S28 3 w := r3_fr C25 F28 (by decide) w25
  have b28 : BO S28 (g + 1) st := bo_fr b25 F28 (by omega) (by omega)
  have p728 : zP S28 7 1 = some g := ((F28 1 (by rw [k125]; decide)).1.2.2.1 (by rw [k125]; rfl) 7).trans p725
  obtain ⟨-, hf⟩ := m_chkE hf
  replace hf := m_calY hf p728
  obtain ⟨-, hf⟩ := m_chkE hf
  replace hf := m_calY hf (show zP S28 9 1 = some 107 from fx_p C28.2.2.1 (by decide))
  obtain ⟨-, hf⟩ := m_chkE hf
  obtain ⟨⟨r31, S31⟩, h_r31, hf⟩ := m_calE hf
  dsimp only at hf
  obtain ⟨⟨kg8, q0, -, -, -, q7⟩, -⟩ := fx_g C28.2.2.1 hgr
  have k107 : zK S28 107 = 0 := fx_k C28.2.2.1 (by decide) (by decide)
  have k108 : zK S28 108 = 14 := fx_k C28.2.2.1 (by decide) (by decide)
  obtain ⟨T31, F31, B31⟩ := p_stand0 T28 ⟨_, q7⟩ q0 k107 (fx_p C28.2.2.1 (by decide)) k108 b28 h_r31
  dsimp only at T31 F31 B31
  obtain ⟨-, hf⟩ := m_chkE hf
  cases hf
  exact r3_fr C28 F31 (by decide) w28
/-- read leaves what is told -/
theorem r3_read (hC : CG S) (hs : SM I A S) (hw : RWL S 3 w) (ho : d_X11_read 1 S = some o) : RWL o.2 3 w := by
  obtain ⟨g, g', hg, p3, p7⟩ := hs.1.2
  obtain ⟨hc, hN, hn, hcb⟩ := hs.2
  have hf : d_X11_read_0 1 S = some o := ho
  have hb : (g = 35 ∧ g' = 99) ∨ (g = 99 ∧ g' = 35) := hg
  have p5 : ∀ {S : ZS}, CG S → zP S 5 1 = some 23 := fun h => fx_p h.2.2.1 (by decide)
  have p0 : ∀ {S : ZS}, CG S → zP S 0 1 = some 2 := fun h => fx_p h.2.2.1 (by decide)
  have hwZ : RWL (zsP S 2 23 (some 2)) 3 w := eqc_rl (eqc_P rfl (show (3 : Nat) ≠ 23 by decide)) (r3_k hC) hw
  unfold d_X11_read_0 at hf
  obtain ⟨-, hf⟩ := m_chkE hf
  replace hf := m_calY hf (p5 hC)
  obtain ⟨-, hf⟩ := m_chkE hf
  replace hf := m_calY hf (p0 hC)
  obtain ⟨-, hf⟩ := m_chkE hf
  obtain ⟨⟨r3, S3⟩, h_r3, hf⟩ := m_calE hf
  dsimp only at hf
  obtain ⟨CZ, H3⟩ := p_begin hC hg p3 hc hN hn hcb h_r3
  dsimp only at H3
  have k3 : ∀ {S9 : ZS}, FR (fun a => ¬ KPc (zsP S 2 23 (some 2)) g' a) (zsP S 2 23 (some 2)) S9 → RWL S9 3 w := fun {S9} F => r3_fr CZ F (fun hn => hn (Or.inl ⟨by decide, by decide⟩)) hwZ
  obtain ⟨-, hf⟩ := m_chkE hf
  obtain ⟨-, hf⟩ := m_chkE hf
  replace hf := m_calY hf (p5 H3.1)
  obtain ⟨-, hf⟩ := m_chkE hf
  obtain ⟨⟨r6, S7⟩, h_r6, hf⟩ := m_cal2E hf
  dsimp only at hf
  have fail : ∀ S9, HSn (zsP S 2 23 (some 2)) S9 g' → d_X11_read_41 1 S9 = some o → RWL o.2 3 w := fun S9 hs hf => by
    unfold d_X11_read_41 at hf
    obtain ⟨-, hf⟩ := m_chkE hf
    replace hf := m_calY hf (p5 hs.1)
    obtain ⟨-, hf⟩ := m_chkE hf
    obtain ⟨⟨r2, S2⟩, h_r2, hf⟩ := m_calE hf
    dsimp only at hf
    have h2 : f_X2_fault_0 23 S9 = some (r2, S2) := h_r2
    unfold f_X2_fault_0 at h2
    obtain ⟨-, h2⟩ := m_chkE h2
    cases h2
    obtain ⟨-, hf⟩ := m_chkE hf
    cases hf
    exact k3 hs.2
  rcases p_readHead H3 h_r6 with ⟨r, e, w9, S1, a1, a2, a3, a4, a5, a6⟩ | ⟨a1, a2, a3⟩
  · dsimp only at a4 a5 a6
    rcases m_ifE hf with ⟨c1, hf⟩ | ⟨-, hf⟩
    · rw [c1] at a4; exact absurd a4 (by decide)
    · obtain ⟨-, hf⟩ := m_chkE hf
      replace hf := m_calY hf (p5 a5.1)
      obtain ⟨-, hf⟩ := m_chkE hf
      obtain ⟨⟨r12, S13⟩, h_r12, hf⟩ := m_cal2E hf
      dsimp only at hf
      rcases p_readMoves a5 a6 h_r12 with ⟨e2, T', b1, b2, b3, b4⟩ | ⟨b1, b2, b3⟩
      · dsimp only at b2 b3
        rcases m_ifE hf with ⟨c1, hf⟩ | ⟨-, hf⟩
        · rw [c1] at b2; exact absurd b2 (by decide)
        · have M := ms_of a2 b3
          obtain ⟨-, hf⟩ := m_chkE hf
          replace hf := m_calY hf (p5 M.1)
          obtain ⟨-, hf⟩ := m_chkE hf
          obtain ⟨⟨r18, S19⟩, h_r18, hf⟩ := m_cal2E hf
          dsimp only at hf
          rcases p_readEnd M h_r18 with ⟨d1, d2, d3, d4, d5⟩ | ⟨d1, d2, d3⟩
          · dsimp only at d3 d4 d5
            rcases m_ifE hf with ⟨c1, hf⟩ | ⟨-, hf⟩
            · rw [c1] at d3; exact absurd d3 (by decide)
            · obtain ⟨c19, ⟨-, -, F19⟩, ⟨l19, -, p319⟩, tr19, bo19, tg19, lb19⟩ := d4
              have k23 : zK S19 23 = 2 := fx_k c19.2.2.1 (by decide) (by decide)
              have k1S : zK (zsP S 2 23 (some 2)) 1 = 11 := fx_k CZ.2.2.1 (by decide) (by decide)
              have p719 : zP S19 7 1 = some g' := by
                rw [(F19 1 (by rw [k1S]; decide)).1.2.2.1 (by rw [k1S]; rfl) 7]
                show va_up (zP S) 2 (va_up (zP S 2) 23 (some 2)) 7 1 = some g'
                rw [va_up_ne _ _ (by decide)]
                exact p7
              have kg' : zK S19 g' = 1 := (fx_g c19.2.2.1 (gg_g (gg_s hg))).1.1
              obtain ⟨-, hf⟩ := m_chkE hf
              replace hf := m_calY hf (p5 c19)
              obtain ⟨-, hf⟩ := m_chkE hf
              replace hf := m_calY hf p719
              obtain ⟨-, hf⟩ := m_chkE hf
              obtain ⟨⟨r24, S24⟩, h_r24, hf⟩ := m_calE hf
              dsimp only at hf
              have T24 : ZT S24 := (ok_of (t_f_X2_exchange (SZ := S19) c19.1 (a7_0 S19) k23 kg' (by rcases hb with ⟨-, ee⟩ | ⟨-, ee⟩ <;> rw [ee] <;> decide)) h_r24).1
              have h24 : f_X2_exchange_0 23 g' S19 = some (r24, S24) := h_r24
              unfold f_X2_exchange_0 at h24
              obtain ⟨-, h24⟩ := m_chkE h24
              replace h24 := m_calY h24 p319
              obtain ⟨-, h24⟩ := m_chkE h24
              obtain ⟨Sx, ex, h24⟩ := m_bndE h24
              have i24 := Option.some.inj h24
              have i1 : g = r24 := congrArg Prod.fst i24
              have i2 : Sx = S24 := congrArg Prod.snd i24
              rw [← i1] at hf
              rw [i2] at ex
              have C24 : CG S24 := cg_p c19 (Or.inr rfl) T24 ex
              obtain ⟨-, hf⟩ := m_chkE hf
              obtain ⟨-, hf⟩ := m_chkE hf
              obtain ⟨S25, e25, hf⟩ := m_bndE hf
              have w24 : RWL S24 3 w := eqc_rl (eqc_P ex (show (3 : Nat) ≠ 23 by decide)) (r3_k c19) (k3 F19)
              exact r3_fin hg C24 (bo_e bo19 (eqc_P ex (by omega)) (eqc_P ex (by omega))) e25 w24 hf
          · dsimp only at d2 d3
            rcases m_ifE hf with ⟨-, hf⟩ | ⟨c1, hf⟩
            · exact fail S19 d3 hf
            · exact absurd (i32_of d2) c1
      · dsimp only at b2 b3
        rcases m_ifE hf with ⟨-, hf⟩ | ⟨c1, hf⟩
        · exact fail S13 (hn_of a2 b3) hf
        · exact absurd (i32_of b2) c1
  · dsimp only at a2 a3
    rcases m_ifE hf with ⟨-, hf⟩ | ⟨c1, hf⟩
    · exact fail S7 a3 hf
    · exact absurd (i32_of a2) c1
end R3R
