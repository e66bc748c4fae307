section FM4
variable {S S' : ZS} {g g' c : Nat} {I I' : Nat → Int32} {A A' : Nat → Nat → Int32} {W : Nat → Prop} {L : List (List Int × List Int)} {st P : PO} {T T' : TRa} {r : Int} {x1 x2 x3 : Int32} {o2 : Int32 × MS}
theorem fm_q (hC : CG S) (h5b : 0 ≤ (I 5).toInt ∧ (I 5).toInt ≤ 1) (h : FM I A S) (hs : SM I' A (zsQ S)) (e : ∀ j, j ≠ 0 → I' j = I j) : FM I' A (zsQ S) := fm_ke hC h5b h hs (ke_q ke_0) (e 5 (by decide)) (e 6 (by decide)) (fun _ _ _ => rfl) (fun _ _ _ _ _ _ w => qs_e w.2.2.2.2 rfl rfl (fun j hj => e j (by omega)))
theorem fxk_4 : ∀ a ∈ [1, 107, 108, 35, 36, 37, 41, 99, 100, 101, 105], fxK a ≠ 4 ∧ fxK (a - 1) ≠ 4 ∧ a ≠ 2 ∧ 1 ≤ a ∧ a ≤ 108 := by decide
/-- nodes, their rows and the text are other cells than these -/
theorem nw_x (hC : CG S) (hW : ∀ a, W a → zK S a = 4 ∨ (∃ n, a = n + 1 ∧ zK S n = 4) ∨ a = 2) : ∀ a ∈ [1, 107, 108, 35, 36, 37, 41, 99, 100, 101, 105], ¬ W a := fun a ha hw => by
  obtain ⟨f1, f2, f3, f4, f5⟩ := fxk_4 a ha
  rcases hW a hw with k | ⟨n, e, k⟩ | e
  · rw [fx_k hC.2.2.1 f4 f5] at k
    exact f1 k
  · by_cases n0 : n = 0
    · have := hC.1.2.2.2.2.2.1
      rw [n0] at k
      omega
    · rw [fx_k hC.2.2.1 (by omega) (by omega)] at k
      rw [show a - 1 = n by omega] at f2
      exact f2 k
  · exact f3 e
theorem nw_t {i t : Nat} (hC : CG S) (hg : g = 35 ∨ g = 99) (hW : ∀ a, W a → zK S a = 4 ∨ (∃ n, a = n + 1 ∧ zK S n = 4) ∨ a = 2) (ht : zB S (g + 6) i = some t) : ¬ W (t + 1) ∧ ¬ W (t + 2) := by
  obtain ⟨b1, b2, -, -, b5, b6⟩ := (gm_of hC hg).2 i t ht
  refine ⟨fun hw => ?_, fun hw => ?_⟩
  · rcases hW _ hw with k | ⟨n, e, k⟩ | e
    · omega
    · rw [show n = t by omega] at k
      omega
    · omega
  · rcases hW _ hw with k | ⟨n, e, k⟩ | e
    · omega
    · rw [show n = t + 1 by omega] at k
      omega
    · omega
/-- the game behind a change of its tree alone -/
theorem gmc_w (hC : CG S) (hg : g = 35 ∨ g = 99) (h : GMc S g L st T r) (hF : FR W S S') (hW : ∀ a, W a → zK S a = 4 ∨ (∃ n, a = n + 1 ∧ zK S n = 4) ∨ a = 2) (tr : TRc S' g T') (hw : WT T') (hl : LTr st T') : GMc S' g L st T' r := by
  obtain ⟨-, bo, tg, lb, hr⟩ := h
  obtain ⟨⟨kg, -⟩, ⟨kb, ka, -, -, -, k6, -⟩, -⟩ := fx_g hC.2.2.1 hg
  have N := nw_x hC hW
  have N4 : ¬ W g ∧ ¬ W (g + 1) ∧ ¬ W (g + 2) ∧ ¬ W (g + 6) := by
    rcases hg with e | e
    · subst e
      exact ⟨N 35 (by decide), N 36 (by decide), N 37 (by decide), N 41 (by decide)⟩
    · subst e
      exact ⟨N 99 (by decide), N 100 (by decide), N 101 (by decide), N 105 (by decide)⟩
  have eg := fr_e hF (a := g) (by rw [kg]; decide) N4.1
  refine ⟨⟨tr, hw, hl⟩, bo_fr bo hF N4.2.1 N4.2.2.1, tgk_e hC hg tg eg (fr_e hF (by rw [k6]; decide) N4.2.2.2) (fun i t ht => ?_), lb, by rw [eg.2.2.1]; exact hr⟩
  obtain ⟨-, -, -, -, b5, b6⟩ := (gm_of hC hg).2 i t ht
  obtain ⟨n1, n2⟩ := nw_t hC hg hW ht
  exact ⟨fr_e hF (by rw [b5]; decide) n1, fr_e hF (by rw [b6]; decide) n2⟩
/-- both sides behind a change of the tree alone -/
theorem fm_tr (hC : CG S) (h5b : 0 ≤ (I 5).toInt ∧ (I 5).toInt ≤ 1) (w : FGm I A S g L st T r c) (hm : SC S) (hs : SM I' A' S') (hF : FR W S S') (hW : ∀ a, W a → zK S a = 4 ∨ (∃ n, a = n + 1 ∧ zK S n = 4) ∨ a = 2) (tr : TRc S' g T') (rr : TRr A' (I 5).toInt.toNat T') (hw : WT T') (hl : LTr st T') (hc : c ≤ tn T') (hp : posT st T' c = posT st T c) (e : ∀ j, j ≠ 0 → j ≠ 1 → I' j = I j) (eA : ∀ j, 16 ≤ j → A' j = A j) : FM I' A' S' := by
  obtain ⟨⟨p7, gc⟩, ⟨-, sp, tg, hr⟩, ⟨c1, c2, c3⟩, bo, qs⟩ := w
  have hg := (sc_7 hm p7).1
  have k1 : zK S 1 = 11 := fx_k hC.2.2.1 (by decide) (by decide)
  have N := nw_x hC hW
  have e1 := fr_e hF (a := 1) (by rw [k1]; decide) (N 1 (by decide))
  have e5 : I' 5 = I 5 := e 5 (by decide) (by decide)
  refine ⟨hs, g, L, st, T', r, c, ⟨(e1.2.2.2.1 7).trans p7, gmc_w hC hg gc hF hW tr hw hl⟩, ?_, ⟨by rw [e1.2.2.1 8]; exact c1, by rw [e 6 (by decide) (by decide)]; exact c2, hc⟩, by rw [hp]; exact bo_fr bo hF (N 107 (by decide)) (N 108 (by decide)), by rw [hp]; exact qs_e qs (eA 24 (by decide)) (eA 32 (by decide)) (fun j hj => e j (by omega) (by omega))⟩
  rw [e5]
  refine ⟨⟨rr, hw, hl⟩, ⟨?_, sp.2⟩, tgr_e tg (fun j j1 j2 => eA j (by omega)), by rw [eA 23 (by decide)]; exact hr⟩
  have s1 := sp.1
  unfold SPo at s1 ⊢
  rw [eA 16 (by decide), eA 17 (by decide)]
  exact s1
theorem gg_7 (hm : SC S) (p7 : zP S 7 1 = some g) : ∃ g', GG g g' := by
  rcases (sc_7 hm p7).1 with e | e
  · exact ⟨99, Or.inl ⟨e, rfl⟩⟩
  · exact ⟨35, Or.inr ⟨e, rfl⟩⟩
/-- addMark on both sides -/
theorem fm_addMark {o : (Nat × Int32) × ZS} (hC : CG S) (hI : TJ I) (hA : TK A) (h5b : 0 ≤ (I 5).toInt ∧ (I 5).toInt ≤ 1) (h : FM I A S) (hs : SM o2.2.1 o2.2.2 o.2) (h2 : f_addMark x1 I A = some o2) (ho : d_X11_addMark 1 x1 S = some o) : FM o2.2.1 o2.2.2 o.2 ∧ ((o.1.1 = 0 ∧ o2.2.1 0 = 0 ∧ o.1.2 = o2.1) ∨ (o.1.1 = 1 ∧ o2.2.1 0 = 1) ∨ (o.1.1 = 4 ∧ o2.2.1 0 = 2)) := by
  have hF := h
  obtain ⟨hm, g, L, st, T, r, c, w⟩ := h
  obtain ⟨⟨p7, gc⟩, gr, ⟨c1, c2, c3⟩, bo, qs⟩ := id w
  obtain ⟨hw, hl, -, h3⟩ := fw_w w
  obtain ⟨g', hGG⟩ := gg_7 hm.1 p7
  have hgg := gg_g hGG
  have hf : d_X11_addMark_0 1 x1 S = some o := ho
  have hr : f_addMark_0 x1 I A = some o2 := h2
  have z0 : (0 : Int32).toInt = 0 := rfl
  have z4 : (4 : Int32).toInt = 4 := rfl
  have z255 : (255 : Int32).toInt = 255 := rfl
  have NM := (gc.1.1.2.2.2 c c3).2.1
  have NK := (gr.1.1.2.2 c c3).2.1
  have r50 : ∀ {t0 : Int32}, 0 < t0.toInt → f_addMark_50 x1 t0 I A = some o2 → o2.2.1 = upd I 0 t0 ∧ o2.2.2 = A := fun {t0} ht hh => by
    unfold f_addMark_50 at hh
    obtain ⟨I1, f1, hh⟩ := m_bndE hh
    rcases m_ifE hh with ⟨d, hh⟩ | ⟨-, hh⟩
    · replace d := ti_leP (a := I1 0) (b := (0 : Int32)) d rfl z0
      rw [f1, upd_self] at d
      omega
    · cases hh
      exact ⟨f1, rfl⟩
  have thr : ∀ {t0 : Int32}, 0 < t0.toInt → f_addMark_50 x1 t0 I A = some o2 → o.2 = zsQ S → FM o2.2.1 o2.2.2 o.2 ∧ o2.2.1 0 = t0 := fun {t0} ht hh e => by
    obtain ⟨a1, a2⟩ := r50 ht hh
    rw [e, a1, a2] at hs
    rw [e, a1, a2]
    exact ⟨fm_q hC h5b hF hs (fun j hj => upd_ne hj), upd_self⟩
  unfold d_X11_addMark_0 at hf
  unfold f_addMark_0 at hr
  have bad : d_X11_addMark_11 S = some o → f_addMark_12 x1 I A = some o2 → FM o2.2.1 o2.2.2 o.2 ∧ ((o.1.1 = 0 ∧ o2.2.1 0 = 0 ∧ o.1.2 = o2.1) ∨ (o.1.1 = 1 ∧ o2.2.1 0 = 1) ∨ (o.1.1 = 4 ∧ o2.2.1 0 = 2)) := fun ha hb => by
    unfold d_X11_addMark_11 at ha
    unfold f_addMark_12 at hb
    have e : o = ((1, 0), zsQ S) := (Option.some.inj ha).symm
    obtain ⟨a1, a2⟩ := thr (by decide) hb (by rw [e])
    exact ⟨a1, Or.inr (Or.inl ⟨by rw [e], a2⟩)⟩
  have ful : ∀ {S1 : ZS}, S1 = S → d_X11_addMark_48 S1 = some o → f_addMark_45 x1 I A = some o2 → FM o2.2.1 o2.2.2 o.2 ∧ ((o.1.1 = 0 ∧ o2.2.1 0 = 0 ∧ o.1.2 = o2.1) ∨ (o.1.1 = 1 ∧ o2.2.1 0 = 1) ∨ (o.1.1 = 4 ∧ o2.2.1 0 = 2)) := fun {S1} es ha hb => by
    rw [es] at ha
    unfold d_X11_addMark_48 at ha
    unfold f_addMark_45 at hb
    have e : o = ((4, 0), zsQ S) := (Option.some.inj ha).symm
    obtain ⟨a1, a2⟩ := thr (by decide) hb (by rw [e])
    exact ⟨a1, Or.inr (Or.inr ⟨by rw [e], a2⟩)⟩
  rcases m_ifE hf with ⟨d, hf⟩ | ⟨d, hf⟩
  · rcases m_ifE hr with ⟨-, hr⟩ | ⟨d2, hr⟩
    · exact bad hf hr
    · exact absurd d d2
  · rcases m_ifE hr with ⟨d2, hr⟩ | ⟨-, hr⟩
    · exact absurd d2 d
    · replace d := ti_ltN (a := x1) (b := (0 : Int32)) d rfl z0
      rcases m_ifE hf with ⟨d1, hf⟩ | ⟨d1, hf⟩
      · rcases m_ifE hr with ⟨-, hr⟩ | ⟨d2, hr⟩
        · replace d1 := ti_leP (a := x1) (b := (255 : Int32)) d1 rfl z255
          obtain ⟨-, hf⟩ := m_chkE hf
          replace hf := m_calY hf p7
          obtain ⟨-, hf⟩ := m_chkE hf
          obtain ⟨-, hf⟩ := m_chkE hf
          obtain ⟨⟨n, S1⟩, h_1, hf⟩ := m_calE hf
          obtain ⟨e1, q1⟩ := p_at hC hgg gc.1.1 (by omega) (by omega) h_1
          rw [show (zI S 8 1).toInt.toNat = c by omega] at q1
          obtain ⟨-, hf⟩ := m_chkE hf
          dsimp only at hf
          rw [e1, q1] at hf
          obtain ⟨-, hf⟩ := m_chkE hf
          rcases m_ifE hf with ⟨d3, hf⟩ | ⟨d3, hf⟩
          · replace d3 := ti_eqP (a := zI S 8 1) (b := (0 : Int32)) d3 rfl z0
            rcases m_ifE hr with ⟨-, hr⟩ | ⟨d4, hr⟩
            · exact ful rfl hf hr
            · replace d4 := ti_eqN (a := I 6) (b := (0 : Int32)) d4 rfl z0
              omega
          · replace d3 := ti_eqN (a := zI S 8 1) (b := (0 : Int32)) d3 rfl z0
            rcases m_ifE hr with ⟨d4, hr⟩ | ⟨-, hr⟩
            · replace d4 := ti_eqP (a := I 6) (b := (0 : Int32)) d4 rfl z0
              omega
            · obtain ⟨k4, hf⟩ := m_chkE hf
              obtain ⟨v1, f1, hr⟩ := m_bndE hr
              obtain ⟨v2, f2, hr⟩ := m_bndE hr
              have s1 : v1.toInt = 301 * (I 5).toInt := ti_mul f1 (show (301 : Int32).toInt = 301 from rfl) rfl (by omega) (by omega)
              have s2 : v2.toInt = v1.toInt + (I 6).toInt := ti_add f2 rfl rfl (by omega) (by omega)
              obtain ⟨-, hr⟩ := m_chkE hr
              obtain ⟨v3, f3, hr⟩ := m_bndE hr
              rw [cl_n (n := 301 * (I 5).toInt.toNat + c) (by omega)] at f3
              have s3 : v3.toInt = ((tK T c).length : Int) := by rw [f3]; exact NK.1
              have l4 := (hw.2.2.1 c).2
              rcases m_ifE hf with ⟨d5, hf⟩ | ⟨d5, hf⟩
              · replace d5 := ti_ltP (a := zI S 4 (nk S (g + 3) (g + 5) c)) (b := (4 : Int32)) d5 rfl z4
                have l3 : ((tK T c).length : Int) ≤ 3 := by
                  have := NM.1
                  omega
                rcases m_ifE hr with ⟨d6, hr⟩ | ⟨-, hr⟩
                · replace d6 := ti_eqP (a := v3) (b := (4 : Int32)) d6 rfl z4
                  omega
                · obtain ⟨-, hf⟩ := m_chkE hf
                  obtain ⟨⟨y3, S3⟩, h_3, hf⟩ := m_calE hf
                  obtain ⟨T3, M3, F3, K3⟩ := p_putMark hC.1 k4 NM l3 h_3
                  dsimp only at T3 M3 F3 K3
                  obtain ⟨-, hf⟩ := m_chkE hf
                  obtain ⟨-, hf⟩ := m_chkE hf
                  cases hf
                  unfold f_addMark_50 at hr
                  obtain ⟨I1, f4, hr⟩ := m_bndE hr
                  have j0 : I1 0 = 0 := by rw [f4, upd_self]
                  have jj : ∀ j, j ≠ 0 → I1 j = I j := fun j hj => by rw [f4, upd_ne hj]
                  rcases m_ifE hr with ⟨-, hr⟩ | ⟨d7, hr⟩
                  · obtain ⟨⟨r5, Ic5, Ac5⟩, h_5, hr⟩ := m_clE hr
                    dsimp only at hr
                    rw [jj 5 (by decide), jj 6 (by decide)] at h_5
                    obtain ⟨b1, b2, b3, b4⟩ := v_addMarkTo (g := (I 5).toInt) (nd := (c : Int)) (k := 301 * (I 5).toInt.toNat + c) rfl c2 h5b (by omega) (by omega) hA NK l3 (by omega) h_5
                    dsimp only at b1 b2 b3 b4
                    obtain ⟨v6, f6, hr⟩ := m_bndE hr
                    obtain ⟨v7, f7, hr⟩ := m_bndE hr
                    obtain ⟨-, hr⟩ := m_chkE hr
                    obtain ⟨v8, f8, hr⟩ := m_bndE hr
                    cases hr
                    have i5 : Ic5 5 = I 5 := by rw [b1]; exact jj 5 (by decide)
                    have i6 : Ic5 6 = I 6 := by rw [b1]; exact jj 6 (by decide)
                    have s6 : v6.toInt = 301 * (I 5).toInt := by
                      rw [i5] at f6
                      exact ti_mul f6 (show (301 : Int32).toInt = 301 from rfl) rfl (by omega) (by omega)
                    have s7 : v7.toInt = v6.toInt + (I 6).toInt := by
                      rw [i6] at f7
                      exact ti_add f7 rfl rfl (by omega) (by omega)
                    rw [cl_n (n := 301 * (I 5).toInt.toNat + c) (by omega)] at f8
                    refine ⟨fm_tr (T' := mkT T c (tK T c ++ [x1.toInt])) hC h5b w hm.1 hs F3 (fun a e => Or.inl (by rw [e]; exact k4)) (trc_mk hC hGG gc.1.1 c3 (fun a ha hn => fr_e F3 (tc_lt hC hgg ha) hn) K3 M3) (trr_mk gr.1.1 hw b4 b3) (wt_mk hw ?_) hl c3 rfl (fun j j0' _ => by show Ic5 j = I j; rw [b1]; exact jj j j0') (fun j hj => b4.2.1 j (by omega) (by omega)), Or.inl ⟨rfl, by show Ic5 0 = 0; rw [b1]; exact j0, ?_⟩⟩
                    · rw [List.length_append]
                      show (tK T c).length + 1 ≤ 4
                      omega
                    · show zI S3 4 (nk S (g + 3) (g + 5) c) = v8
                      exact Int32.toInt_inj.1 (by rw [M3.1, f8]; exact b3.1.symm)
                  · exact absurd (show I1 0 ≤ 0 by rw [j0]; decide) d7
              · replace d5 := ti_ltN (a := zI S 4 (nk S (g + 3) (g + 5) c)) (b := (4 : Int32)) d5 rfl z4
                rcases m_ifE hr with ⟨-, hr⟩ | ⟨d6, hr⟩
                · exact ful rfl hf hr
                · replace d6 := ti_eqN (a := v3) (b := (4 : Int32)) d6 rfl z4
                  have := NM.1
                  omega
        · exact absurd d1 d2
      · rcases m_ifE hr with ⟨d2, hr⟩ | ⟨-, hr⟩
        · exact absurd d2 d1
        · exact bad hf hr
/-- end on both sides -/
theorem fm_end {o : (Nat × Int32) × ZS} (hC : CG S) (h5b : 0 ≤ (I 5).toInt ∧ (I 5).toInt ≤ 1) (h : FM I A S) (hs : SM o2.2.1 o2.2.2 o.2) (h2 : f_end x1 I A = some o2) (ho : d_X11_end 1 x1 S = some o) : FM o2.2.1 o2.2.2 o.2 := by
  obtain ⟨hm, g, L, st, T, r, c, w⟩ := h
  obtain ⟨⟨p7, gc⟩, gr, ⟨c1, c2, c3⟩, bo, qs⟩ := id w
  have hgg := (sc_7 hm.1 p7).1
  have kg := (fx_g hC.2.2.1 hgg).1.1
  have SR0 : SR I A S := ⟨hm, fun q hq => by
    rw [p7] at hq
    cases hq
    refine ⟨Int32.toInt_inj.1 (gc.2.2.2.2.trans gr.2.2.2.symm), Int32.toInt_inj.1 (gc.2.2.1.1.trans ?_)⟩
    have := gr.2.2.1.1
    rw [Int.toNat_natCast] at this
    exact this.symm⟩
  have SR1 := sr_end h5b SR0 hs h2 ho
  have fz := (fz_X11_end ho hC.1.2.2.2.2.1).2.2
  have fw := fw_end h2
  have k1 : zK S 1 = 11 := fx_k hC.2.2.1 (by decide) (by decide)
  have p7' : zP o.2 7 1 = some g := by
    rw [(fz 1 (by rw [k1]; decide)).2.2.2.1 7 (by rw [k1]; decide)]
    exact p7
  obtain ⟨q6, -⟩ := SR1.2 g p7'
  have F : FR (fun a => a = g) S o.2 := by
    have hf : d_X11_end_0 1 x1 S = some o := ho
    have thr : d_X11_end_9 S = some o → FR (fun a => a = g) S o.2 := fun hh => by
      unfold d_X11_end_9 at hh
      cases hh
      exact fr_0 (S := S)
    unfold d_X11_end_0 at hf
    rcases m_ifE hf with ⟨-, hf⟩ | ⟨-, hf⟩
    · exact thr hf
    · rcases m_ifE hf with ⟨-, hf⟩ | ⟨-, hf⟩
      · obtain ⟨-, hf⟩ := m_chkE hf
        replace hf := m_calY hf p7
        obtain ⟨-, hf⟩ := m_chkE hf
        obtain ⟨S2, e2, hf⟩ := m_bndE hf
        cases hf
        exact fr_I e2
      · exact thr hf
  have eg : ∀ j, j ≠ 6 → zI o.2 j g = zI S j g := fun j hj => (fz g (by rw [kg]; decide)).2.2.1 j (by rw [kg]; simp; omega)
  have e0 : ∀ j, j ≠ 0 → o2.2.1 j = I j := fun j hj => fw.1 j (by simpa using hj)
  have eA : ∀ j, j ≠ 23 → o2.2.2 j = A j := fun j hj => fw.2 j (by simpa using hj)
  obtain ⟨⟨tr, hw, hl⟩, bo1, tg, lb, -⟩ := gc
  obtain ⟨⟨rr, -, -⟩, sp, tgr, -⟩ := gr
  have k6 : zK S (g + 6) = 17 := (fx_g hC.2.2.1 hgg).2.1.2.2.2.2.2.1
  have k107 : zK S 107 = 0 := fx_k hC.2.2.1 (by decide) (by decide)
  have e1 := fr_e F (a := 1) (by rw [k1]; decide) (by omega)
  refine ⟨hs, g, L, st, T, (zI o.2 6 g).toInt, c, ⟨p7', ⟨trc_g hC hgg tr (eg 3 (by decide)) (fun a ha hn => fr_e F (tc_lt hC hgg ha) hn), hw, hl⟩, bo_fr bo1 F (by omega) (by omega), tgk_o tg (eg 5 (by decide)) (fr_e F (a := g + 6) (by rw [k6]; decide) (by omega)).2.2.2.2.1 (fun i t ht w r hr hw => ?_), lb, rfl⟩, ?_, ⟨by rw [e1.2.2.1 8]; exact c1, by rw [e0 6 (by decide)]; exact c2, c3⟩, bo_fr bo F (by omega) (by omega), qs_e qs (eA 24 (by decide)) (eA 32 (by decide)) (fun j hj => e0 j (by omega))⟩
  · obtain ⟨t1, -, -, -, t5, t6⟩ := (gm_of hC hgg).2 i t ht
    rcases hr with e | e
    · rw [e] at hw ⊢
      exact eqc_rl (fr_e F (by rw [t5]; decide) (by omega)) t5 hw
    · rw [e] at hw ⊢
      exact eqc_rl (fr_e F (by rw [t6]; decide) (by omega)) t6 hw
  · rw [q6, e0 5 (by decide)]
    refine ⟨⟨trr_e (by omega) hw.1 rr (by rw [eA 7 (by decide)]) (fun j hj => eA j (by omega)), hw, hl⟩, ⟨?_, sp.2⟩, tgr_e tgr (fun j j1 j2 => eA j (by omega)), rfl⟩
    have s1 := sp.1
    unfold SPo at s1 ⊢
    rw [eA 16 (by decide), eA 17 (by decide)]
    exact s1
theorem vs_102 {k : Nat} {A0 : Nat → Nat → Int32} (hk : x2.toInt = (k : Int)) (hk6 : k ≤ 601) (hA0 : TK A0) (hN : 0 ≤ (I 1).toInt ∧ (I 1).toInt ≤ 200) : ∀ (n : Nat) (x3 : Int32) (A : Nat → Nat → Int32), (0 ≤ x3.toInt ∧ x3.toInt ≤ (I 1).toInt) → (∀ j, j ≠ 15 → A j = A0 j) → (∀ i, (i < 200 * k ∨ 200 * k + 200 ≤ i) → A 15 i = A0 15 i) → (∀ i : Nat, (i : Int) < x3.toInt → (A 15 (200 * k + i)).toInt = (A0 2 i).toInt) → f_say_102 n x2 x3 I A = some o2 → o2.2.1 = upd I 1 0 ∧ (∀ j, j ≠ 14 → j ≠ 15 → o2.2.2 j = A0 j) ∧ (∀ i, i ≠ k → o2.2.2 14 i = A0 14 i) ∧ o2.2.2 14 k = I 1 ∧ (∀ i, (i < 200 * k ∨ 200 * k + 200 ≤ i) → o2.2.2 15 i = A0 15 i) ∧ ∀ i : Nat, (i : Int) < (I 1).toInt → (o2.2.2 15 (200 * k + i)).toInt = (A0 2 i).toInt := by
  intro n
  induction n with
  | zero => intro x3 A _ _ _ _ hf; cases hf
  | succ n ih =>
    intro x3 A hx hA h15 hp hf
    have hf : f_say_102s (f_say_102 n) x2 x3 I A = some o2 := hf
    unfold f_say_102s at hf
    rcases m_ifE hf with ⟨c, hf⟩ | ⟨c, hf⟩
    · replace c := ti_leP (a := I 1) (b := x3) c rfl rfl
      obtain ⟨-, hf⟩ := m_chkE hf
      obtain ⟨A1, e1, hf⟩ := m_bndE hf
      rw [cl_n (n := k) hk] at e1
      obtain ⟨I2, e2, hf⟩ := m_bndE hf
      obtain ⟨-, hf⟩ := m_chkE hf
      obtain ⟨v3, -, hf⟩ := m_bndE hf
      cases hf
      have u : ∀ j, j ≠ 14 → A1 j = A j := fun j hj => by rw [e1]; exact va_up_ne _ _ hj
      have u4 : A1 14 = upd (A 14) k (I 1) := by rw [e1]; exact va_up_self _ _ _
      refine ⟨e2, fun j j1 j2 => (u j j1).trans (hA j j2), fun i hi => ?_, ?_, fun i hi => ?_, fun i hi => ?_⟩
      · show A1 14 i = A0 14 i
        rw [u4, upd_ne hi, hA 14 (by decide)]
      · show A1 14 k = I 1
        rw [u4, upd_self]
      · show A1 15 i = A0 15 i
        rw [u 15 (by decide)]
        exact h15 i hi
      · show (A1 15 (200 * k + i)).toInt = _
        rw [u 15 (by decide)]
        exact hp i (by omega)
    · replace c := ti_leN (a := I 1) (b := x3) c rfl rfl
      obtain ⟨v4, e4, hf⟩ := m_bndE hf
      obtain ⟨v5, e5, hf⟩ := m_bndE hf
      have t4 : v4.toInt = 200 * x2.toInt := ti_mul e4 (show (200 : Int32).toInt = 200 from rfl) rfl (by omega) (by omega)
      have t5 : v5.toInt = v4.toInt + x3.toInt := ti_add e5 rfl rfl (by omega) (by omega)
      obtain ⟨-, hf⟩ := m_chkE hf
      obtain ⟨v6, e6, hf⟩ := m_bndE hf
      obtain ⟨-, hf⟩ := m_chkE hf
      obtain ⟨A7, e7, hf⟩ := m_bndE hf
      obtain ⟨v8, e8, hf⟩ := m_bndE hf
      have t8 : v8.toInt = x3.toInt + 1 := ti_add e8 rfl (show (1 : Int32).toInt = 1 from rfl) (by omega) (by omega)
      obtain ⟨i3, h3⟩ : ∃ i3 : Nat, x3.toInt = (i3 : Int) := ⟨x3.toInt.toNat, by omega⟩
      rw [cl_n (n := i3) h3, hA 2 (by decide)] at e6
      rw [cl_n (n := 200 * k + i3) (by omega)] at e7
      have b6 : 0 ≤ v6.toInt ∧ v6.toInt ≤ 65535 := by rw [e6]; exact hA0 2 i3
      have u : ∀ j, j ≠ 15 → A7 j = A j := fun j hj => by rw [e7]; exact va_up_ne _ _ hj
      have u5 : A7 15 = upd (A 15) (200 * k + i3) (vp_nar .char v6) := by rw [e7]; exact va_up_self _ _ _
      refine ih v8 A7 (by omega) (fun j hj => (u j hj).trans (hA j hj)) (fun i hi => ?_) (fun i hi => ?_) hf
      · rw [u5, upd_ne (by omega)]
        exact h15 i hi
      · rw [u5]
        by_cases e : i = i3
        · rw [e, upd_self, nar_ci rfl b6.1 b6.2, e6]
        · rw [upd_ne (by omega)]
          exact hp i (by omega)
theorem vs_18 : ∀ (n : Nat) (x1 x2 : Int32), f_say_18 n x1 x2 I A = some o2 → ∃ t0 : Int32, (t0 = 0 ∨ t0 = 1) ∧ f_say_74 t0 I A = some o2 := by
  intro n
  induction n with
  | zero => intro x1 x2 hf; cases hf
  | succ n ih =>
    intro x1 x2 hf
    have hf : f_say_18s (f_say_18 n) x1 x2 I A = some o2 := hf
    have r57 : ∀ {t0 : Int32}, f_say_57 (f_say_18 n) x2 t0 I A = some o2 → ∃ t0 : Int32, (t0 = 0 ∨ t0 = 1) ∧ f_say_74 t0 I A = some o2 := fun hh => by
      unfold f_say_57 at hh
      obtain ⟨v1, -, hh⟩ := m_bndE hh
      exact ih _ _ hh
    have r56 : f_say_56 (f_say_18 n) x2 I A = some o2 → ∃ t0 : Int32, (t0 = 0 ∨ t0 = 1) ∧ f_say_74 t0 I A = some o2 := fun hh => by
      unfold f_say_56 at hh
      exact r57 hh
    unfold f_say_18s at hf
    rcases m_ifE hf with ⟨-, hf⟩ | ⟨-, hf⟩
    · rcases m_ifE hf with ⟨-, hf⟩ | ⟨-, hf⟩
      · exact ⟨1, Or.inr rfl, hf⟩
      · exact ⟨0, Or.inl rfl, hf⟩
    · rcases m_ifE hf with ⟨-, hf⟩ | ⟨-, hf⟩
      · exact r56 hf
      · obtain ⟨-, hf⟩ := m_chkE hf
        obtain ⟨v1, -, hf⟩ := m_bndE hf
        rcases m_ifE hf with ⟨-, hf⟩ | ⟨-, hf⟩
        · exact r56 hf
        · obtain ⟨-, hf⟩ := m_chkE hf
          obtain ⟨v2, -, hf⟩ := m_bndE hf
          rcases m_ifE hf with ⟨-, hf⟩ | ⟨-, hf⟩
          · exact r56 hf
          · exact r57 hf
/-- what the reference's say does -/
theorem v_say2 (hA : TK A) (h5b : 0 ≤ (I 5).toInt ∧ (I 5).toInt ≤ 1) (h6 : (I 6).toInt = (c : Int)) (hc : c ≤ 300) (hN : 0 ≤ (I 1).toInt ∧ (I 1).toInt ≤ 2000) (hf : f_say I A = some o2) : ((o2.2.1 0).toInt = 1 → o2.2.2 = A ∧ ∀ j, j ≠ 0 → o2.2.1 j = I j) ∧ ((o2.2.1 0).toInt = 0 → (I 1).toInt ≤ 200 → (∀ j, j ≠ 0 → j ≠ 1 → o2.2.1 j = I j) ∧ RFm I I A o2.2.2 (301 * (I 5).toInt.toNat + c) ∧ (o2.2.2 14 (301 * (I 5).toInt.toNat + c)) = I 1 ∧ ∀ i : Nat, (i : Int) < (I 1).toInt → (o2.2.2 15 (200 * (301 * (I 5).toInt.toNat + c) + i)).toInt = (A 2 i).toInt) := by
  have hf : f_say_0 I A = some o2 := hf
  have z0 : (0 : Int32).toInt = 0 := rfl
  have key : ∃ t0 : Int32, (t0 = 0 ∨ t0 = 1) ∧ f_say_74 t0 I A = some o2 := by
    unfold f_say_0 at hf
    rcases m_ifE hf with ⟨-, hf⟩ | ⟨-, hf⟩
    · unfold f_say_15 at hf
      exact vs_18 _ _ _ hf
    · unfold f_say_15 at hf
      exact vs_18 _ _ _ hf
  obtain ⟨t0, ht, hf⟩ := key
  unfold f_say_74 at hf
  obtain ⟨I1, e1, hf⟩ := m_bndE hf
  have j0 : I1 0 = t0 := by rw [e1, upd_self]
  have jj : ∀ j, j ≠ 0 → I1 j = I j := fun j hj => by rw [e1, upd_ne hj]
  rcases m_ifE hf with ⟨d, hf⟩ | ⟨d, hf⟩
  · obtain ⟨v2, e2, hf⟩ := m_bndE hf
    obtain ⟨v3, e3, hf⟩ := m_bndE hf
    rw [jj 5 (by decide)] at e2
    rw [jj 6 (by decide)] at e3
    have t2 : v2.toInt = 301 * (I 5).toInt := ti_mul e2 (show (301 : Int32).toInt = 301 from rfl) rfl (by omega) (by omega)
    have t3 : v3.toInt = v2.toInt + (I 6).toInt := ti_add e3 rfl rfl (by omega) (by omega)
    have i1 : I1 1 = I 1 := jj 1 (by decide)
    have d0 : t0 = 0 := by
      rcases ht with e | e
      · exact e
      · rw [j0, e] at d
        exact absurd d (by decide)
    refine ⟨fun h => ?_, fun _ hN2 => ?_⟩
    · exfalso
      have fw : o2.2.1 0 = I1 0 := by
        have : ∀ (n : Nat) (x3 : Int32) (A : Nat → Nat → Int32), f_say_102 n v3 x3 I1 A = some o2 → o2.2.1 0 = I1 0 := by
          intro n
          induction n with
          | zero => intro x3 A hf; cases hf
          | succ n ih =>
            intro x3 A hf
            have hf : f_say_102s (f_say_102 n) v3 x3 I1 A = some o2 := hf
            unfold f_say_102s at hf
            rcases m_ifE hf with ⟨-, hf⟩ | ⟨-, hf⟩
            · obtain ⟨-, hf⟩ := m_chkE hf
              obtain ⟨A1, -, hf⟩ := m_bndE hf
              obtain ⟨I2, e2, hf⟩ := m_bndE hf
              obtain ⟨-, hf⟩ := m_chkE hf
              obtain ⟨v3, -, hf⟩ := m_bndE hf
              cases hf
              show I2 0 = I1 0
              rw [e2, upd_ne (by decide)]
            · obtain ⟨v4, -, hf⟩ := m_bndE hf
              obtain ⟨v5, -, hf⟩ := m_bndE hf
              obtain ⟨-, hf⟩ := m_chkE hf
              obtain ⟨v6, -, hf⟩ := m_bndE hf
              obtain ⟨-, hf⟩ := m_chkE hf
              obtain ⟨A7, -, hf⟩ := m_bndE hf
              obtain ⟨v8, -, hf⟩ := m_bndE hf
              exact ih _ _ hf
        exact this _ _ _ hf
      rw [fw, j0, d0] at h
      exact absurd h (by decide)
    · obtain ⟨a1, a2, a3, a4, a5, a6⟩ := vs_102 (k := 301 * (I 5).toInt.toNat + c) (A0 := A) (I := I1) (by omega) (by omega) hA (by rw [i1]; omega) mFuel 0 A (by rw [i1, z0]; omega) (fun _ _ => rfl) (fun _ _ => rfl) (fun i hi => by rw [z0] at hi; omega) hf
      rw [i1] at a4 a6
      refine ⟨fun j h0 h1 => by rw [a1, upd_ne h1]; exact jj j h0, ⟨fun _ _ => rfl, a2, a3, a5⟩, a4, a6⟩
  · cases hf
    refine ⟨fun _ => ⟨rfl, jj⟩, fun h _ => ?_⟩
    exfalso
    rcases ht with e | e
    · exact d (by rw [j0, e]; decide)
    · have h : (I1 0).toInt = 0 := h
      rw [j0, e] at h
      exact absurd h (by decide)
/-- say on both sides -/
theorem fm_say {o : (Nat × Int32) × ZS} (hC : CG S) (hA : TK A) (h5b : 0 ≤ (I 5).toInt ∧ (I 5).toInt ≤ 1) (h : FM I A S) (hs : SM o2.2.1 o2.2.2 o.2) (h2 : f_say I A = some o2) (ho : d_X11_say 1 S = some o) : FM o2.2.1 o2.2.2 o.2 := by
  have hF := h
  obtain ⟨hm, g, L, st, T, r, c, w⟩ := h
  obtain ⟨⟨p7, gc⟩, gr, ⟨c1, c2, c3⟩, bo, qs⟩ := id w
  obtain ⟨hw, hl, -, h3⟩ := fw_w w
  obtain ⟨g', hGG⟩ := gg_7 hm.1 p7
  have hgg := gg_g hGG
  obtain ⟨⟨kg, -, p1, p2, -⟩, -⟩ := fx_g hC.2.2.1 hgg
  have wb := hm.2.2.2
  have vs := v_say2 hA h5b c2 (by omega) wb.1 h2
  have en : nd S g (zI S 8 1) = nk S (g + 3) (g + 5) c := by
    rw [nd_nk hC.1 kg p1 p2 (by omega) (by rw [gc.1.1.1]; omega)]
    rw [show (zI S 8 1).toInt.toNat = c by omega]
  rcases p_say hC hgg p7 hm.2 ho with ⟨a1, a2, a3, a4, a5, F, w', hr, hl', hcw⟩ | ⟨a1, a2, a3⟩
  · rcases v_say rfl rfl wb.1 h2 with ⟨-, b2, b3, b4⟩ | ⟨b1, -⟩
    · rw [en] at F hr
      obtain ⟨d1, d2, d3, d4⟩ := vs.2 b3 a1.1
      have nd4 := nk_nd hC hgg c
      have l2 : (w'.length : Int) ≤ 200 := by
        have := a1.1
        omega
      refine fm_tr (T' := rkT T c w') hC h5b w hm.1 hs F (fun a e => ?_) (trc_rk hC hGG gc.1.1 c3 (fun a ha hn => fr_e F (tc_lt hC hgg ha) (fun e => ?_)) hr) (trr_rk gr.1.1 hw d2 ⟨?_, fun i hi => ?_⟩) (wt_rk hw (by omega)) hl c3 rfl (fun j j0 j1 => d1 j j0 j1) (fun j hj => d2.2.1 j (by omega) (by omega))
      · rcases e with e | e
        · exact Or.inr (Or.inr e)
        · exact Or.inr (Or.inl ⟨_, e, nd4.1⟩)
      · rcases e with e | e
        · rw [e] at ha
          exact tc_no hC hgg (by decide) (by omega) (by omega) (by omega) (by omega) ha
        · exact hn e
      · rw [d3, hl']
      · rw [d4 i (by omega), hcw]
        unfold txR
        rw [if_pos (by omega)]
        rfl
    · exact absurd a1 b1
  · rcases v_say rfl rfl wb.1 h2 with ⟨b1, -⟩ | ⟨-, b2, b3, b4⟩
    · exact absurd b1 a1
    · obtain ⟨d1, d2⟩ := vs.1 b3
      rw [a3, d1] at hs
      rw [a3, d1]
      exact fm_q hC h5b hF hs d2
end FM4
