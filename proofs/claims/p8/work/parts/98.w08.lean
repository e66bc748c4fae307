/-- what is told is the same on both sides -/
def OWt (I : Nat → Int32) (A : Nat → Nat → Int32) (S : ZS) : Prop := ∃ w : List Int, w.length ≤ 80000 ∧ RWL S 3 w ∧ OUr I A w
/-- the full relation, a result, and what is told -/
def FXr (I : Nat → Int32) (A : Nat → Nat → Int32) (S : ZS) : Prop := FM I A S ∧ R0t I A ∧ OWt I A S
section R3K
variable {S S' : ZS} {g g' k c : Nat} {W V : List (Nat × Nat)} {B C : List Nat} {Q : Nat → Prop} {I I' : Nat → Int32} {A A' : Nat → Nat → Int32} {o2 : Int32 × MS} {x1 x2 x3 : Int32} {w : List Int}
theorem ow_c (hI : zI S' = zI S) (hP : zP S' = zP S) (hA : zA S' = zA S) (h : OWt I A S) : OWt I A S' := by
  obtain ⟨w, h1, h2, h3⟩ := h
  have e : rwC S' = rwC S := by funext a i; unfold rwC; simp only [hI, hP, hA]
  exact ⟨w, h1, ⟨by rw [hI]; exact h2.1, fun i => by rw [e]; exact h2.2 i⟩, h3⟩
theorem fx_c (hK : zK S' = zK S) (hI : zI S' = zI S) (hP : zP S' = zP S) (hN : zN S' = zN S) (hA : zA S' = zA S) (hB : zB S' = zB S) (h : FXr I A S) : FXr I A S' := ⟨fm_c hK hI hP hN hA hB h.1, h.2.1, ow_c hI hP hA h.2.2⟩
theorem ow_k (h : OWt I A S) (hr : ∀ w, RWL S 3 w → RWL S' 3 w) (h3 : I' 3 = I 3) (h4 : A' 4 = A 4) : OWt I' A' S' := by
  obtain ⟨w, a1, a2, a3⟩ := h
  exact ⟨w, a1, hr w a2, by rw [h3]; exact a3.1, by rw [h4]; exact a3.2⟩
theorem r3_k (hC : CG S) : zK S 3 = 6 := fx_k hC.2.2.1 (by decide) (by decide)
theorem r3_fr (hC : CG S) (hF : FR Q S S') (h3 : ¬ Q 3) (h : RWL S 3 w) : RWL S' 3 w := eqc_rl (fr_e hF (by rw [r3_k hC]; decide) h3) (r3_k hC) h
theorem r3_z (hC : CG S) (f : FrZ W V B S S') (fa : FrA C S S') (hW : (6, 1) ∉ W ∧ (6, 0) ∉ V ∧ 13 ∉ C) (h : RWL S 3 w) : RWL S' 3 w := rwl_z hC.1 (r3_k hC) f fa hW h
theorem r3_type {x : Int64} {o : Int32 × ZS} (hC : CG S) (hs : SM I A S) (h : RWL S 3 w) (ho : d_X11_type 1 x x3 S = some o) : RWL o.2 3 w := by
  obtain ⟨w2, hw, -, -⟩ := tx_l hC hs.2
  rcases p_type hC hw ho with ⟨-, -, -, -, F⟩ | ⟨-, -, e⟩
  · exact r3_fr hC F (by decide) h
  · rw [e]; exact h
theorem r3_cut {o : Int32 × ZS} (hC : CG S) (hs : SM I A S) (h : RWL S 3 w) (ho : f_X11_cut 1 x1 S = some o) : RWL o.2 3 w := by
  rcases p_cut hC hs.2 ho with ⟨-, -, -, -, F⟩ | ⟨-, -, e⟩
  · exact r3_fr hC F (by decide) h
  · rw [e]; exact h
theorem r3_say {o : (Nat × Int32) × ZS} (hC : CG S) (hs : SM I A S) (h : RWL S 3 w) (ho : d_X11_say 1 S = some o) : RWL o.2 3 w := by
  obtain ⟨g, g', hg, -, p7⟩ := hs.1.2
  have hg' := gg_g (gg_s hg)
  rcases p_say hC hg' p7 hs.2 ho with ⟨-, -, -, -, -, F, -⟩ | ⟨-, -, e⟩
  · obtain ⟨kn, -, -, -⟩ := nd_fx (x1 := zI S 8 1) hC hg'
    refine r3_fr hC F (fun e => ?_) h
    rcases e with e | e
    · exact absurd e (by decide)
    · have e2 : nd S g' (zI S 8 1) = 2 := by omega
      rw [e2, fx_k hC.2.2.1 (by decide) (by decide)] at kn
      exact absurd kn (by decide)
  · rw [e]; exact h
theorem r3_grow {o : Int32 × ZS} (hT : ZT S) (h : SC S) (hg : g = 35 ∨ g = 99) (ht : RWL S 3 w) (hf : d_X1_grow g x1 x2 S = some o) : RWL o.2 3 w := by
  have hg2 : ∃ g', GG g g' := hg.elim (fun e => ⟨99, Or.inl ⟨e, rfl⟩⟩) (fun e => ⟨35, Or.inr ⟨e, rfl⟩⟩)
  obtain ⟨g', hg2⟩ := hg2
  have hf : d_X1_grow_0 g x1 x2 S = some o := hf
  have k3 : zK S 3 = 6 := fx_k h.1.1 (by decide) (by decide)
  unfold d_X1_grow_0 at hf
  obtain ⟨kg, hf⟩ := m_chkE hf
  rcases m_ifE hf with ⟨c1, hf⟩ | ⟨c1, hf⟩
  · replace c1 := ti_ltP (a := zI S 3 g) (b := (300 : Int32)) c1 rfl (show (300 : Int32).toInt = 300 from rfl)
    obtain ⟨-, hf⟩ := m_chkE hf
    obtain ⟨o1, h1, hf⟩ := m_calE hf
    obtain ⟨-, hf⟩ := m_chkE hf
    obtain ⟨-, hf⟩ := m_chkE hf
    have e1 := ro_X1_at h1
    rw [e1] at hf
    obtain ⟨y, hf⟩ := gz_24 _ _ _ _ hf
    have hc := cn_le hT kg
    obtain ⟨SX, c, hX, hf⟩ := gz_64 hT h.1 hg rfl (by omega) hf
    have xX := gz_x h.1 hg2 hX
    have FX := hX.2.2.2.1
    have c2 := hX.2.2.2.2.2.1.2.1
    have tX : RWL SX 3 w := eqc_rl (fr_e FX (by rw [k3]; decide) (by omega)) k3 ht
    have FB := gz_102f h.1 hg2 (by omega) hX hf
    have k3X : zK SX 3 = 6 := fx_k xX.1 (by decide) (by decide)
    refine eqc_rl (fr_e FB (by rw [k3X]; decide) (fun e => ?_)) k3X tX
    rcases e with e | e
    · rw [k3X] at e; cases e
    · have ec : c = 2 := by omega
      rw [ec, fx_k xX.1 (by decide) (by decide)] at c2
      exact absurd c2 (by decide)
  · cases hf
    exact ht
theorem r3_95 {r : (Nat × Int32) × ZS} (hT : ZT S) (hx : CGx S) (ht : RWL S 3 w) (hf : d_X11_add_95 1 x1 x2 S = some r) : RWL r.2 3 w := by
  unfold d_X11_add_95 at hf
  obtain ⟨k1, hf⟩ := m_chkE hf
  obtain ⟨S1, e1, hf⟩ := m_bndE hf
  obtain ⟨-, hf⟩ := m_chkE hf
  obtain ⟨b2, -, hf⟩ := m_calE hf
  obtain ⟨-, hf⟩ := m_chkE hf
  obtain ⟨o3, h3, hf⟩ := m_calE hf
  obtain ⟨-, hf⟩ := m_chkE hf
  cases hf
  have f1 : FrZ [(0, 1), (0, 2), (0, 3), (0, 4), (0, 5), (0, 6), (11, 8)] [] [] S S1 := frz_I frz_0 k1 e1 (by decide)
  have a1 : FrA [14] S S1 := fra_I fra_0 e1
  exact rwl_z hT (fx_k hx.1 (by decide) (by decide)) (frz_t f1 (fz_X0_play h3) (by decide) (by decide) (by decide)) (fra_t a1 (fa_X0_play h3) (by decide)) (by decide) ht
theorem r3_add {r : (Nat × Int32) × ZS} (hT : ZT S) (hZ : TZ S) (hcur : ∀ g', zP S 7 1 = some g' → (zI S 8 1).toInt ≤ (cn S g' : Int)) (h : SC S) (ht : RWL S 3 w) (hf : d_X11_add 1 x1 S = some r) : RWL r.2 3 w := by
  obtain ⟨g0, g, hgg, -, p70⟩ := h.2
  have hg : g = 35 ∨ g = 99 := (sc_7 h p70).1
  have hf : d_X11_add_0 1 x1 S = some r := hf
  have h72 : ∀ {S1 : ZS}, RWL S1 3 w → d_X11_add_72 S1 = some r → RWL r.2 3 w := fun {S1} h hf => by
    unfold d_X11_add_72 at hf
    cases hf
    exact h
  unfold d_X11_add_0 at hf
  obtain ⟨kx, hf⟩ := m_chkE hf
  obtain ⟨b1, p1, hf⟩ := m_calE hf
  obtain ⟨-, hf⟩ := m_chkE hf
  obtain ⟨b2, p2, hf⟩ := m_calE hf
  obtain ⟨kb1, hf⟩ := m_chkE hf
  obtain ⟨⟨y3, S3⟩, h3, hf⟩ := m_calE hf
  obtain ⟨-, hf⟩ := m_chkE hf
  have k2 : zK S b2 = 0 := by
    obtain ⟨c, q, k⟩ := T_11_9 hT kx
    rw [p2] at q
    cases q
    exact k
  have T3 : ZT S3 := (ok_of (t_f_X7_isLegal (SZ := S) (x0 := b1) (x1 := b2) (x2 := x1) hT (a7_0 S) kb1 k2) h3).1
  have F3 := fz_X7_isLegal h3
  have s3 : SC S3 := sc_z h hT F3 (by decide)
  have Z3 : TZ S3 := tz_fr hT F3 (by decide) hZ
  have t3 : RWL S3 3 w := rwl_z hT (fx_k h.1.1 (by decide) (by decide)) F3 (fa_X7_isLegal h3) (by decide) ht
  dsimp only at hf
  rcases m_ifE hf with ⟨-, hf⟩ | ⟨-, hf⟩
  · cases hf
    exact t3
  · obtain ⟨kx3, hf⟩ := m_chkE hf
    obtain ⟨b4, p4, hf⟩ := m_calE hf
    obtain ⟨-, hf⟩ := m_chkE hf
    obtain ⟨kb4, hf⟩ := m_chkE hf
    obtain ⟨o5, h5, hf⟩ := m_calE hf
    obtain ⟨-, hf⟩ := m_chkE hf
    have e5 : o5.2 = S3 := by
      obtain ⟨y, q, -⟩ := roz (t_f_X1_childWith (x1 := zI S3 8 1) (x2 := x1) T3 kb4)
      rw [q] at h5
      cases h5
      rfl
    rw [e5] at hf
    have ex := (F3 hT.2.2.2.2.1).2.2
    have kS1 : zK S 1 = 11 := kx
    have p7 : zP S3 7 1 = some g := by rw [(ex 1 (by rw [kS1]; decide)).2.2.2.1 7 (by rw [kS1]; decide)]; exact p70
    rcases m_ifE hf with ⟨-, hf⟩ | ⟨-, hf⟩
    · obtain ⟨-, hf⟩ := m_chkE hf
      obtain ⟨b6, p6, hf⟩ := m_calE hf
      obtain ⟨-, hf⟩ := m_chkE hf
      rcases m_ifE hf with ⟨-, hf⟩ | ⟨-, hf⟩
      · exact h72 t3 hf
      · obtain ⟨-, hf⟩ := m_chkE hf
        obtain ⟨b7, p7', hf⟩ := m_calE hf
        obtain ⟨-, hf⟩ := m_chkE hf
        obtain ⟨kb7, hf⟩ := m_chkE hf
        obtain ⟨o8, h8, hf⟩ := m_calE hf
        obtain ⟨-, hf⟩ := m_chkE hf
        have e8 : o8.2 = S3 := by
          obtain ⟨y, q, -⟩ := roz (t_f_X1_deepOfNext (x1 := zI S3 8 1) T3 kb7)
          rw [q] at h8
          cases h8
          rfl
        rw [e8] at hf
        rcases m_ifE hf with ⟨-, hf⟩ | ⟨-, hf⟩
        · obtain ⟨-, hf⟩ := m_chkE hf
          obtain ⟨b9, p9, hf⟩ := m_calE hf
          obtain ⟨-, hf⟩ := m_chkE hf
          obtain ⟨kb9, hf⟩ := m_chkE hf
          obtain ⟨⟨y11, S12⟩, h11, hf9⟩ := m_cal2E hf
          have eb : b9 = g := by rw [p7] at p9; exact (Option.some.inj p9).symm
          rw [eb] at h11 kb9
          have kg0 : zK S g = 1 := (sc_7 h p70).2
          have c3 : (zI S3 8 1).toInt ≤ (cn S3 g : Int) := by
            have q1 : zI S3 8 1 = zI S 8 1 := (ex 1 (by rw [kS1]; decide)).2.2.1 8 (by rw [kS1]; decide)
            have q2 : zI S3 3 g = zI S 3 g := (ex g (by rw [kg0]; decide)).2.2.1 3 (by rw [kg0]; decide)
            unfold cn
            rw [q1, q2]
            exact hcur g p70
          have T12 : ZT S12 := (ok_of (t_d_X1_grow (SZ := S3) (x0 := g) (x1 := zI S3 8 1) (x2 := x1) T3 (rp_0 S3) kb9 Z3 (by rcases hg with e | e <;> rw [e] <;> decide) ⟨(J_11_8 T3 kx3).1, c3⟩) h11).1
          have s12 : SC S12 := sc_grow T3 s3 hg h11
          exact r3_95 T12 s12.1 (r3_grow T3 s3 hg t3 h11) hf9
        · exact h72 t3 hf
    · exact r3_95 T3 s3.1 t3 hf
theorem r3_find {o : Int32 × ZS} (hC : CG S) (h : FM I A S) (hw : RWL S 3 w) (ho : d_X11_find 1 S = some o) : RWL o.2 3 w := by
  obtain ⟨hm, g, L, st, T, r, c, wf⟩ := h
  obtain ⟨-, -, -, bo, qs⟩ := id wf
  obtain ⟨pg, pn1, pn2⟩ := fw_pg wf
  obtain ⟨tx, tN, tb, tc⟩ := id hm.2
  have hx := hC.2.2.1
  have hf : d_X11_find_0 1 S = some o := ho
  have k2 : zK S 2 = 6 := fx_k hx (by decide) (by decide)
  unfold d_X11_find_0 at hf
  obtain ⟨-, hf⟩ := m_chkE hf
  replace hf := m_calY hf (show zP S 3 1 = some 9 from fx_p hx (by decide))
  obtain ⟨-, hf⟩ := m_chkE hf
  replace hf := m_calY hf (show zP S 9 1 = some 107 from fx_p hx (by decide))
  obtain ⟨-, hf⟩ := m_chkE hf
  replace hf := m_calY hf (show zP S 0 1 = some 2 from fx_p hx (by decide))
  obtain ⟨-, hf⟩ := m_chkE hf
  replace hf := m_calY hf (show zP S 0 1 = some 2 from fx_p hx (by decide))
  obtain ⟨-, hf⟩ := m_chkE hf
  obtain ⟨⟨y5, S5⟩, h_5, hf⟩ := m_calE hf
  have q5 := pc_X6_size h_5
  have e5 : S5 = S := ro_X6_size h_5
  obtain ⟨-, hf⟩ := m_chkE hf
  dsimp only at q5 hf
  rw [e5] at hf
  obtain ⟨-, hf⟩ := m_chkE hf
  obtain ⟨⟨r7, S8⟩, h_7, hf⟩ := m_cal2E hf
  have eo := (Option.some.inj hf).symm
  have y5N : y5.toInt = (I 1).toInt := by rw [q5]; exact tN
  have z0 : (0 : Int32).toInt = 0 := rfl
  obtain ⟨-, M, -⟩ := p_matched (ko := oko (posT st T c)) (srr_9 hC bo pg ⟨by omega, by omega⟩ (by decide)) k2 (by decide) tx tc (by decide) (by omega) rfl pg.2.1 pg.2.2.2.2.2.2.1 pg.1 h_7
  dsimp only at M
  rw [eo]
  exact r3_fr hC (fr_mt M (fx_k hx (by decide) (by decide))) (by decide) hw
theorem r3_tag {o : (Nat × Int32) × ZS} (hC : CG S) (h : FM I A S) (hw : RWL S 3 w) (ho : d_X11_tag 1 x1 x2 x3 S = some o) : RWL o.2 3 w := by
  obtain ⟨hm, g, L, st, T, r, c, wf⟩ := h
  obtain ⟨⟨p7, gc⟩, -⟩ := id wf
  have hgg := (sc_7 hm.1 p7).1
  have z0 : (0 : Int32).toInt = 0 := rfl
  obtain ⟨-, -, -, -, p4, -⟩ := (fx_g hC.2.2.1 hgg).1
  obtain ⟨tg1, tg2, tg3⟩ := gc.2.2.1
  have hf : d_X11_tag_0 1 x1 x2 x3 S = some o := ho
  have thr : d_X11_tag_19 S = some o → RWL o.2 3 w := fun hh => by
    unfold d_X11_tag_19 at hh
    cases hh
    exact hw
  unfold d_X11_tag_0 at hf
  rcases m_ifE hf with ⟨-, hf⟩ | ⟨d, hf⟩
  · exact thr hf
  · replace d := ti_ltN (a := x1) (b := (0 : Int32)) d rfl z0
    obtain ⟨-, hf⟩ := m_chkE hf
    replace hf := m_calY hf p7
    obtain ⟨-, hf⟩ := m_chkE hf
    rcases m_ifE hf with ⟨-, hf⟩ | ⟨d2, hf⟩
    · exact thr hf
    · replace d2 := ti_leN (a := zI S 5 g) (b := x1) d2 rfl rfl
      rcases m_ifE hf with ⟨-, hf⟩ | ⟨-, hf⟩
      · obtain ⟨-, hf⟩ := m_chkE hf
        replace hf := m_calY hf p7
        obtain ⟨-, hf⟩ := m_chkE hf
        obtain ⟨⟨r4, S5⟩, h_4, hf⟩ := m_cal2E hf
        obtain ⟨t, ht, -, -⟩ := tg3 x1.toInt.toNat (by omega)
        obtain ⟨e5, -⟩ := p_tagX (t := t) (by omega) d p4 ht h_4
        dsimp only at hf
        rw [e5] at hf
        rcases m_ifE hf with ⟨-, hf⟩ | ⟨-, hf⟩
        · obtain ⟨-, hf⟩ := m_chkE hf
          obtain ⟨b8, -, hf⟩ := m_calE hf
          obtain ⟨-, hf⟩ := m_chkE hf
          obtain ⟨⟨y9, S9⟩, h_9, hf⟩ := m_calE hf
          have e9 : S9 = S := ro_X6_at h_9
          obtain ⟨-, hf⟩ := m_chkE hf
          unfold d_X11_tag_65 at hf
          dsimp only at hf
          rw [e9] at hf
          cases hf
          exact hw
        · obtain ⟨-, hf⟩ := m_chkE hf
          obtain ⟨b8, -, hf⟩ := m_calE hf
          obtain ⟨-, hf⟩ := m_chkE hf
          obtain ⟨⟨y9, S9⟩, h_9, hf⟩ := m_calE hf
          have e9 : S9 = S := ro_X6_at h_9
          obtain ⟨-, hf⟩ := m_chkE hf
          unfold d_X11_tag_65 at hf
          dsimp only at hf
          rw [e9] at hf
          cases hf
          exact hw
      · exact thr hf
/-- out on both sides -/
theorem an_out {o : Int32 × ZS} (hC : CG S) (h : OWt I A S) (h2 : f_out x1 I A = some o2) (ho : f_X11_out 1 x1 S = some o) : o.1 = o2.1 := by
  obtain ⟨w, h8, hr, h3, h4⟩ := h
  have z0 : (0 : Int32).toInt = 0 := rfl
  have hf : f_X11_out_0 1 x1 S = some o := ho
  have hg : f_out_0 x1 I A = some o2 := h2
  unfold f_X11_out_0 at hf
  obtain ⟨-, hf⟩ := m_chkE hf
  replace hf := m_calY hf (show zP S 1 1 = some 3 from fx_p hC.2.2.1 (by decide))
  obtain ⟨-, hf⟩ := m_chkE hf
  obtain ⟨⟨y2, S2⟩, h_2, hf⟩ := m_calE hf
  have q2 := pc_X6_at h_2
  have eo := (Option.some.inj hf).symm
  dsimp only at q2
  rw [hr.2] at q2
  unfold f_out_0 f_out_17 f_out_27 at hg
  obtain ⟨I1, e1, hg⟩ := m_bndE hg
  have j3 : I1 3 = I 3 := by rw [e1, upd_ne (by decide)]
  rw [eo]
  refine Int32.toInt_inj.1 ?_
  show y2.toInt = o2.1.toInt
  rw [q2]
  rcases m_ifE hg with ⟨d, hg⟩ | ⟨d, hg⟩
  · replace d := ti_ltP (a := x1) (b := (0 : Int32)) d rfl z0
    have e2 := (Option.some.inj hg).symm
    rw [e2, wA_out (Or.inl d)]
    rfl
  · replace d := ti_ltN (a := x1) (b := (0 : Int32)) d rfl z0
    rcases m_ifE hg with ⟨d2, hg⟩ | ⟨d2, hg⟩
    · replace d2 := ti_ltP (a := x1) (b := I1 3) d2 rfl rfl
      rw [j3] at d2
      obtain ⟨-, hg⟩ := m_chkE hg
      obtain ⟨v2, f2, hg⟩ := m_bndE hg
      rw [cl_n (n := x1.toInt.toNat) (by omega)] at f2
      have q := h4 x1.toInt.toNat (by omega)
      rw [← f2, show ((x1.toInt.toNat : Nat) : Int) = x1.toInt by omega] at q
      have e2 := (Option.some.inj hg).symm
      rw [e2]
      exact q.symm
    · replace d2 := ti_ltN (a := x1) (b := I1 3) d2 rfl rfl
      rw [j3] at d2
      have e2 := (Option.some.inj hg).symm
      rw [e2, wA_out (Or.inr (by omega))]
      rfl
theorem ow_signs {o : (Nat × Int32) × ZS} (hC : CG S) (hR : RIt I A) (h : FM I A S) (hw : OWt I A S) (h2 : f_signs x1 I A = some o2) (ho : d_X11_signs 1 x1 S = some o) : OWt o2.2.1 o2.2.2 o.2 := by
  rcases an_signs hC hR h h2 ho with ⟨-, w, l, q1, q2⟩ | ⟨-, eA, eI, S1, e1, F1⟩
  · exact ⟨w, by omega, q1, q2⟩
  · refine ow_k hw (fun w q => ?_) (eI 3 (by decide)) (by rw [eA])
    rw [e1]
    exact r3_fr hC F1 (by decide) q
end R3K
