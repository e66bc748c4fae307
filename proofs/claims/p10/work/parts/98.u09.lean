section ANS
variable {S S' : ZS} {g g' c k p : Nat} {I I' : Nat → Int32} {A A' : Nat → Nat → Int32} {L : List (List Int × List Int)} {st P : PO} {T T' : TRa} {r v : Int} {x1 x2 x3 : Int32} {o2 : Int32 × MS}
theorem ke_type {x : Int64} {o : Int32 × ZS} (hC : CG S) (hs : SM I A S) (ho : d_X11_type 1 x x3 S = some o) : KE S o.2 := by
  obtain ⟨w, hw, -, -⟩ := tx_l hC hs.2
  rcases p_type hC hw ho with ⟨-, -, -, -, F⟩ | ⟨-, -, e⟩
  · exact ke_2 F
  · rw [e]; exact ke_0
theorem ke_cut {o : Int32 × ZS} (hC : CG S) (hs : SM I A S) (ho : f_X11_cut 1 x1 S = some o) : KE S o.2 := by
  rcases p_cut hC hs.2 ho with ⟨-, -, -, -, F⟩ | ⟨-, -, e⟩
  · exact ke_2 F
  · rw [e]; exact ke_0
theorem an_nodes {o : Int32 × ZS} (hC : CG S) (hR : RIt I A) (h : FM I A S) (h2 : f_nodes I A = some o2) (ho : f_X11_nodes 1 S = some o) : o.1 = o2.1 := by
  obtain ⟨hm, g, L, st, T, r, c, w⟩ := h
  obtain ⟨⟨p7, gc⟩, gr, -⟩ := id w
  have hgg := (sc_7 hm.1 p7).1
  have b5 : 0 ≤ (I 5).toInt ∧ (I 5).toInt ≤ 1 := hR.1 5
  have kg := (fx_g hC.2.2.1 hgg).1.1
  have hn := (cn_le hC.1 kg).2
  rw [gc.1.1.1] at hn
  have hf : f_X11_nodes_0 1 S = some o := ho
  have hr : f_nodes_0 I A = some o2 := h2
  unfold f_X11_nodes_0 at hf
  unfold f_nodes_0 at hr
  obtain ⟨-, hf⟩ := m_chkE hf
  replace hf := m_calY hf p7
  obtain ⟨-, hf⟩ := m_chkE hf
  obtain ⟨I1, e1, hr⟩ := m_bndE hr
  obtain ⟨-, hr⟩ := m_chkE hr
  obtain ⟨v2, e2, hr⟩ := m_bndE hr
  have j5 : I1 5 = I 5 := by rw [e1, upd_ne (by decide)]
  rw [j5, cl_n (n := (I 5).toInt.toNat) (by omega)] at e2
  cases hf
  cases hr
  exact Int32.toInt_inj.1 (by show (zI S 3 g).toInt = v2.toInt; rw [hn, e2]; exact (aK_i hR.2.1 gr.1.1).symm)
theorem an_here {o : Int32 × ZS} (h : FM I A S) (h2 : f_here I A = some o2) (ho : f_X11_here 1 S = some o) : o.1 = o2.1 := by
  obtain ⟨hm, g, L, st, T, r, c, w⟩ := h
  obtain ⟨-, -, ⟨c1, c2, -⟩, -⟩ := id w
  have hf : f_X11_here_0 1 S = some o := ho
  have hr : f_here_0 I A = some o2 := h2
  unfold f_X11_here_0 at hf
  unfold f_here_0 at hr
  obtain ⟨-, hf⟩ := m_chkE hf
  obtain ⟨I1, e1, hr⟩ := m_bndE hr
  have j6 : I1 6 = I 6 := by rw [e1, upd_ne (by decide)]
  cases hf
  cases hr
  exact Int32.toInt_inj.1 (by show (zI S 8 1).toInt = (I1 6).toInt; rw [j6, c1, c2])
theorem an_man {o : (Nat × Int32) × ZS} (hC : CG S) (h : FM I A S) (h2 : f_man x1 I A = some o2) (ho : d_X11_man 1 x1 S = some o) : (o.1.1 = 0 ∧ o2.2.1 0 = 0 ∧ o.1.2 = o2.1) ∨ (o.1.1 = 2 ∧ o2.2.1 0 = 1) := by
  obtain ⟨hm, g, L, st, T, r, c, w⟩ := h
  obtain ⟨-, -, -, bo, qs⟩ := id w
  have hf : d_X11_man_0 1 x1 S = some o := ho
  have hr : f_man_0 x1 I A = some o2 := h2
  have z0 : (0 : Int32).toInt = 0 := rfl
  have z63 : (63 : Int32).toInt = 63 := rfl
  have z64 : (64 : Int32).toInt = 64 := rfl
  have bad : d_X11_man_10 S = some o → f_man_11 x1 I A = some o2 → (o.1.1 = 0 ∧ o2.2.1 0 = 0 ∧ o.1.2 = o2.1) ∨ (o.1.1 = 2 ∧ o2.2.1 0 = 1) := fun ha hb => by
    unfold d_X11_man_10 at ha
    unfold f_man_11 f_man_16 at hb
    obtain ⟨I1, e1, hb⟩ := m_bndE hb
    rcases m_ifE hb with ⟨d, hb⟩ | ⟨-, hb⟩
    · rw [e1, upd_self] at d
      exact absurd d (by decide)
    · unfold f_man_36 at hb
      have e := (Option.some.inj ha).symm
      have e2 := (Option.some.inj hb).symm
      rw [e, e2]
      exact Or.inr ⟨rfl, by show I1 0 = 1; rw [e1, upd_self]⟩
  unfold d_X11_man_0 at hf
  unfold f_man_0 at hr
  rcases m_ifE hf with ⟨d, hf⟩ | ⟨d, hf⟩
  · rcases m_ifE hr with ⟨-, hr⟩ | ⟨d2, hr⟩
    · exact bad hf hr
    · exact absurd d d2
  · rcases m_ifE hr with ⟨d2, hr⟩ | ⟨-, hr⟩
    · exact absurd d2 d
    · replace d := ti_ltN (a := x1) (b := (0 : Int32)) d rfl z0
      rcases m_ifE hf with ⟨d3, hf⟩ | ⟨d3, hf⟩
      · replace d3 := ti_ltP (a := x1) (b := (64 : Int32)) d3 rfl z64
        rcases m_ifE hr with ⟨-, hr⟩ | ⟨d4, hr⟩
        · obtain ⟨-, hf⟩ := m_chkE hf
          replace hf := m_calY hf (show zP S 9 1 = some 107 from fx_p hC.2.2.1 (by decide))
          obtain ⟨-, hf⟩ := m_chkE hf
          replace hf := m_calY hf (show zP S 0 107 = some 108 from fx_p hC.2.2.1 (by decide))
          obtain ⟨-, hf⟩ := m_chkE hf
          obtain ⟨-, hf⟩ := m_chkE hf
          obtain ⟨v3, e3, hf⟩ := m_bndE hf
          unfold f_man_16 at hr
          obtain ⟨I1, e1, hr⟩ := m_bndE hr
          have j0 : I1 0 = 0 := by rw [e1, upd_self]
          rcases m_ifE hr with ⟨-, hr⟩ | ⟨d5, hr⟩
          · obtain ⟨-, hr⟩ := m_chkE hr
            obtain ⟨v2, e2, hr⟩ := m_bndE hr
            unfold f_man_36 at hr
            have eo := (Option.some.inj hf).symm
            have eo2 := (Option.some.inj hr).symm
            have xn : x1.toNatClampNeg = x1.toInt.toNat := cl_n (by omega)
            rw [xn] at e3 e2
            have q1 : mCb S 107 x1.toInt = v3.toInt := by
              unfold mCb
              rw [if_pos ⟨d, d3⟩, bo.1.2.1, e3]
            have q2 : mR A x1.toInt = v2.toInt := by
              unfold mR
              rw [if_pos ⟨d, d3⟩, e2]
            rw [bo.2.1] at q1
            rw [qs.1.1] at q2
            rw [eo, eo2]
            exact Or.inl ⟨rfl, j0, Int32.toInt_inj.1 (q1.symm.trans q2)⟩
          · exact absurd (show I1 0 ≤ 0 by rw [j0]; decide) d5
        · replace d4 := ti_leN (a := x1) (b := (63 : Int32)) d4 rfl z63
          omega
      · replace d3 := ti_ltN (a := x1) (b := (64 : Int32)) d3 rfl z64
        rcases m_ifE hr with ⟨d4, hr⟩ | ⟨-, hr⟩
        · replace d4 := ti_leP (a := x1) (b := (63 : Int32)) d4 rfl z63
          omega
        · exact bad hf hr
theorem an_remark {o : (Nat × Int32) × ZS} (hC : CG S) (hR : RIt I A) (h : FM I A S) (h2 : f_remark x1 x2 I A = some o2) (ho : d_X11_remark 1 x1 x2 S = some o) : (o.1.1 = 0 ∧ o2.2.1 0 = 0 ∧ o.1.2 = o2.1) ∨ (o.1.1 = 2 ∧ o2.2.1 0 = 1) := by
  obtain ⟨hm, g, L, st, T, r, c, w⟩ := h
  obtain ⟨⟨p7, gc⟩, gr, -⟩ := id w
  obtain ⟨hw, -, -, h3⟩ := fw_w w
  have hgg := (sc_7 hm.1 p7).1
  have h5b : 0 ≤ (I 5).toInt ∧ (I 5).toInt ≤ 1 := hR.1 5
  have hf : d_X11_remark_0 1 x1 x2 S = some o := ho
  have hr : f_remark_0 x1 x2 I A = some o2 := h2
  have z0 : (0 : Int32).toInt = 0 := rfl
  have bad : ∀ {S1 : ZS}, d_X11_remark_33 S1 = some o → f_remark_32 x1 x2 I A = some o2 → (o.1.1 = 0 ∧ o2.2.1 0 = 0 ∧ o.1.2 = o2.1) ∨ (o.1.1 = 2 ∧ o2.2.1 0 = 1) := fun {S1} ha hb => by
    unfold d_X11_remark_33 at ha
    unfold f_remark_32 f_remark_37 at hb
    obtain ⟨I1, e1, hb⟩ := m_bndE hb
    rcases m_ifE hb with ⟨d, hb⟩ | ⟨-, hb⟩
    · rw [e1, upd_self] at d
      exact absurd d (by decide)
    · unfold f_remark_72 at hb
      have e := (Option.some.inj ha).symm
      have e2 := (Option.some.inj hb).symm
      rw [e, e2]
      exact Or.inr ⟨rfl, by show I1 0 = 1; rw [e1, upd_self]⟩
  unfold d_X11_remark_0 at hf
  unfold f_remark_0 at hr
  obtain ⟨-, hf⟩ := m_chkE hf
  replace hf := m_calY hf p7
  obtain ⟨-, hf⟩ := m_chkE hf
  obtain ⟨⟨y2, S2⟩, h_2, hf⟩ := m_calE hf
  obtain ⟨-, hf⟩ := m_chkE hf
  obtain ⟨e2, q2⟩ := fm_has hC hgg gc.1.1 h_2
  dsimp only at e2 q2 hf
  rw [e2] at hf
  obtain ⟨⟨r1, Ic1, Ac1⟩, h_r1, hr⟩ := m_clE hr
  dsimp only at hr
  obtain ⟨e1, q1⟩ := fm_isNode h5b hR.2.1 gr.1.1 h_r1
  have i1 : Ic1 = I := congrArg Prod.fst e1
  have a1 : Ac1 = A := congrArg Prod.snd e1
  rw [i1, a1] at hr
  dsimp only at q1
  rcases m_ifE hf with ⟨d, hf⟩ | ⟨d, hf⟩
  · rw [d] at q2
    have hn : ¬ (0 ≤ x1.toInt ∧ x1.toInt ≤ (tn T : Int)) := by
      rcases q2 with ⟨q, -⟩ | ⟨-, q⟩
      · exact absurd q (by decide)
      · exact q
    rcases m_ifE hr with ⟨-, hr⟩ | ⟨d2, hr⟩
    · exact bad hf hr
    · rcases q1 with ⟨-, q⟩ | ⟨q, -⟩
      · exact absurd q hn
      · exact absurd (i32_of q) d2
  · have hn : 0 ≤ x1.toInt ∧ x1.toInt ≤ (tn T : Int) := by
      rcases q2 with ⟨-, q⟩ | ⟨q, -⟩
      · exact q
      · exact absurd (i32_of q) d
    obtain ⟨nd, hx⟩ : ∃ nd : Nat, x1.toInt = (nd : Int) := ⟨x1.toInt.toNat, by omega⟩
    have hnd : nd ≤ tn T := by omega
    have ex : x1.toInt.toNat = nd := by omega
    rcases m_ifE hr with ⟨d2, hr⟩ | ⟨-, hr⟩
    · rw [d2] at q1
      rcases q1 with ⟨q, -⟩ | ⟨-, q⟩
      · exact absurd q (by decide)
      · exact absurd hn q
    · rcases m_ifE hf with ⟨d3, hf⟩ | ⟨d3, hf⟩
      · rcases m_ifE hr with ⟨-, hr⟩ | ⟨d4, hr⟩
        · exact bad hf hr
        · exact absurd d3 d4
      · rcases m_ifE hr with ⟨d4, hr⟩ | ⟨-, hr⟩
        · exact absurd d4 d3
        · replace d3 := ti_ltN (a := x2) (b := (0 : Int32)) d3 rfl z0
          obtain ⟨-, -, RW⟩ := gc.1.1.2.2.2 nd hnd
          obtain ⟨-, -, RR⟩ := gr.1.1.2.2 nd hnd
          have l2 := (hw.2.2.1 nd).1
          obtain ⟨nk4, nk6, nkr, -⟩ := nk_nd hC hgg nd
          obtain ⟨-, hf⟩ := m_chkE hf
          replace hf := m_calY hf p7
          obtain ⟨-, hf⟩ := m_chkE hf
          obtain ⟨⟨n4, S4⟩, h_4, hf⟩ := m_calE hf
          obtain ⟨e4, q4⟩ := p_at hC hgg gc.1.1 hn.1 hn.2 h_4
          rw [ex] at q4
          obtain ⟨-, hf⟩ := m_chkE hf
          dsimp only at hf
          rw [e4, q4] at hf
          obtain ⟨-, hf⟩ := m_chkE hf
          replace hf := m_calY hf nk6
          obtain ⟨-, hf⟩ := m_chkE hf
          obtain ⟨⟨y6, S6⟩, h_6, hf⟩ := m_calE hf
          have q6 := pc_X6_size h_6
          have e6 : S6 = S := ro_X6_size h_6
          obtain ⟨-, hf⟩ := m_chkE hf
          dsimp only at q6 hf
          rw [e6] at hf
          have t6 : y6.toInt = ((tR T nd).length : Int) := by rw [q6]; exact RW.1
          obtain ⟨v2, f2, hr⟩ := m_bndE hr
          obtain ⟨v3, f3, hr⟩ := m_bndE hr
          have s2 : v2.toInt = 301 * (I 5).toInt := ti_mul f2 (show (301 : Int32).toInt = 301 from rfl) rfl (by omega) (by omega)
          have s3 : v3.toInt = v2.toInt + x1.toInt := ti_add f3 rfl rfl (by omega) (by omega)
          obtain ⟨-, hr⟩ := m_chkE hr
          obtain ⟨v4, f4, hr⟩ := m_bndE hr
          rw [cl_n (n := 301 * (I 5).toInt.toNat + nd) (by omega)] at f4
          have s4 : v4.toInt = ((tR T nd).length : Int) := by rw [f4]; exact RR.1
          rcases m_ifE hf with ⟨d5, hf⟩ | ⟨d5, hf⟩
          · replace d5 := ti_ltP (a := x2) (b := y6) d5 rfl rfl
            rcases m_ifE hr with ⟨-, hr⟩ | ⟨d6, hr⟩
            · obtain ⟨-, hf⟩ := m_chkE hf
              replace hf := m_calY hf p7
              obtain ⟨-, hf⟩ := m_chkE hf
              obtain ⟨⟨n8, S8⟩, h_8, hf⟩ := m_calE hf
              obtain ⟨e8, q8⟩ := p_at hC hgg gc.1.1 hn.1 hn.2 h_8
              rw [ex] at q8
              obtain ⟨-, hf⟩ := m_chkE hf
              dsimp only at hf
              rw [e8, q8] at hf
              obtain ⟨-, hf⟩ := m_chkE hf
              replace hf := m_calY hf nk6
              obtain ⟨-, hf⟩ := m_chkE hf
              obtain ⟨⟨y10, S10⟩, h_10, hf⟩ := m_calE hf
              have q10 := pc_X6_at h_10
              obtain ⟨-, hf⟩ := m_chkE hf
              dsimp only at q10
              rw [RW.2] at q10
              unfold f_remark_37 at hr
              obtain ⟨I1, g1, hr⟩ := m_bndE hr
              have j0 : I1 0 = 0 := by rw [g1, upd_self]
              have j5 : I1 5 = I 5 := by rw [g1, upd_ne (by decide)]
              rcases m_ifE hr with ⟨-, hr⟩ | ⟨d7, hr⟩
              · obtain ⟨u2, g2, hr⟩ := m_bndE hr
                obtain ⟨u3, g3, hr⟩ := m_bndE hr
                obtain ⟨u4, g4, hr⟩ := m_bndE hr
                obtain ⟨u5, g5, hr⟩ := m_bndE hr
                rw [j5] at g2
                have w2 : u2.toInt = 301 * (I 5).toInt := ti_mul g2 (show (301 : Int32).toInt = 301 from rfl) rfl (by omega) (by omega)
                have w3 : u3.toInt = u2.toInt + x1.toInt := ti_add g3 rfl rfl (by omega) (by omega)
                have w4 : u4.toInt = 200 * u3.toInt := ti_mul g4 (show (200 : Int32).toInt = 200 from rfl) rfl (by omega) (by omega)
                have w5 : u5.toInt = u4.toInt + x2.toInt := ti_add g5 rfl rfl (by omega) (by omega)
                obtain ⟨-, hr⟩ := m_chkE hr
                obtain ⟨u6, g6, hr⟩ := m_bndE hr
                rw [cl_n (n := 200 * (301 * (I 5).toInt.toNat + nd) + x2.toInt.toNat) (by omega)] at g6
                unfold f_remark_72 at hr
                have eo := (Option.some.inj hf).symm
                have eo2 := (Option.some.inj hr).symm
                have q := RR.2 x2.toInt.toNat (by omega)
                rw [← g6, show ((x2.toInt.toNat : Nat) : Int) = x2.toInt by omega] at q
                rw [eo, eo2]
                exact Or.inl ⟨rfl, j0, Int32.toInt_inj.1 (by show y10.toInt = u6.toInt; rw [q10, q])⟩
              · exact absurd (show I1 0 ≤ 0 by rw [j0]; decide) d7
            · replace d6 := ti_ltN (a := x2) (b := v4) d6 rfl rfl
              omega
          · replace d5 := ti_ltN (a := x2) (b := y6) d5 rfl rfl
            rcases m_ifE hr with ⟨d6, hr⟩ | ⟨-, hr⟩
            · replace d6 := ti_ltP (a := x2) (b := v4) d6 rfl rfl
              omega
            · exact bad hf hr
end ANS
