/-- node: which table -/
noncomputable def ndJ (x : Int32) : Nat := if x = 0 then 8 else if x = 1 then 9 else if x = 2 then 10 else if x = 3 then 11 else if x = 4 then 12 else 14
theorem nx_eq {N N' : Nat → Int} : ∀ (l : List Nat) (v v' : Int) (k : Nat), chn N l v → chn N' l v' → k ∈ l → N k = N' k := by
  intro l
  induction l with
  | nil => intro v v' k _ _ hk; exact absurd hk List.not_mem_nil
  | cons a l ih =>
    intro v v' k h h' hk
    obtain ⟨-, h2⟩ := h
    obtain ⟨-, h2'⟩ := h'
    rcases List.mem_cons.mp hk with e | e
    · rw [e]
      cases l with
      | nil => exact (show N a = -1 from h2).trans (show N' a = -1 from h2').symm
      | cons b l => exact (show N a = (b : Int) from h2.1).trans (show N' a = (b : Int) from h2'.1).symm
    · exact ih _ _ k h2 h2' e
section NOD
variable {S S' : ZS} {g g' c k p : Nat} {I I' : Nat → Int32} {A A' : Nat → Nat → Int32} {L : List (List Int × List Int)} {st P : PO} {T T' : TRa} {r v : Int} {x1 x2 x3 : Int32} {o2 : Int32 × MS}
theorem nx_all {gr : Nat} (hw : WT T) (tc : TRc S g T) (tr : TRr A gr T) (hk : k ≤ tn T) : nF S 3 (g + 3) (g + 5) k = aN A gr k := by
  by_cases e : k = 0
  · rw [e, tc.2.1.2, tr.1.2]
  · have k1 : 1 ≤ k := by omega
    have hP := (hw.2.1 k k1 hk).1
    have hu : (tP T k).toNat ≤ tn T := by omega
    have hq : tP T k = ((tP T k).toNat : Int) := by omega
    have hc := tc.2.2.1 _ hu
    have hr := tr.2.1 _ hu
    exact nx_eq _ _ _ k hc.1 hr.1 ((hc.2.2 k).2 ⟨k1, hk, (tc.2.2.2 k hk).1.1.trans hq⟩)
theorem nd_g {gr nd : Nat} (h5 : (I 5).toInt = (gr : Int)) (hgr : gr ≤ 1) (hx : x1.toInt = (nd : Int)) (hn : nd ≤ 300) (hr : f_node_23 x1 x2 0 I A = some o2) : o2.2.1 0 = 0 ∧ o2.1 = A (ndJ x2) (301 * gr + nd) := by
  unfold f_node_23 at hr
  obtain ⟨I1, e1, hr⟩ := m_bndE hr
  have j0 : I1 0 = 0 := by rw [e1, upd_self]
  have j5 : I1 5 = I 5 := by rw [e1, upd_ne (by decide)]
  rcases m_ifE hr with ⟨-, hr⟩ | ⟨d, -⟩
  rotate_left
  · exact absurd (show I1 0 ≤ 0 by rw [j0]; decide) d
  obtain ⟨v2, e2, hr⟩ := m_bndE hr
  obtain ⟨v3, e3, hr⟩ := m_bndE hr
  rw [j5] at e2
  have t2 : v2.toInt = 301 * (I 5).toInt := ti_mul e2 (show (301 : Int32).toInt = 301 from rfl) rfl (by omega) (by omega)
  have t3 : v3.toInt = v2.toInt + x1.toInt := ti_add e3 rfl rfl (by omega) (by omega)
  have i3 : v3.toNatClampNeg = 301 * gr + nd := cl_n (by omega)
  have fin : ∀ (q : Nat) (v : Int32), ndJ x2 = q → v = A q v3.toNatClampNeg → o2 = (v, (I1, A)) → o2.2.1 0 = 0 ∧ o2.1 = A (ndJ x2) (301 * gr + nd) := fun q v hq hv he => by
    rw [he, hq, ← i3]
    exact ⟨j0, hv⟩
  rcases m_ifE hr with ⟨d0, hr⟩ | ⟨d0, hr⟩
  · obtain ⟨-, hr⟩ := m_chkE hr
    obtain ⟨v4, e4, hr⟩ := m_bndE hr
    exact fin 8 v4 (if_pos d0) e4 (Option.some.inj hr).symm
  rcases m_ifE hr with ⟨d1, hr⟩ | ⟨d1, hr⟩
  · obtain ⟨-, hr⟩ := m_chkE hr
    obtain ⟨v4, e4, hr⟩ := m_bndE hr
    exact fin 9 v4 (by unfold ndJ; rw [if_neg d0, if_pos d1]) e4 (Option.some.inj hr).symm
  rcases m_ifE hr with ⟨d2, hr⟩ | ⟨d2, hr⟩
  · obtain ⟨-, hr⟩ := m_chkE hr
    obtain ⟨v4, e4, hr⟩ := m_bndE hr
    exact fin 10 v4 (by unfold ndJ; rw [if_neg d0, if_neg d1, if_pos d2]) e4 (Option.some.inj hr).symm
  rcases m_ifE hr with ⟨d3, hr⟩ | ⟨d3, hr⟩
  · obtain ⟨-, hr⟩ := m_chkE hr
    obtain ⟨v4, e4, hr⟩ := m_bndE hr
    exact fin 11 v4 (by unfold ndJ; rw [if_neg d0, if_neg d1, if_neg d2, if_pos d3]) e4 (Option.some.inj hr).symm
  rcases m_ifE hr with ⟨d4, hr⟩ | ⟨d4, hr⟩
  · obtain ⟨-, hr⟩ := m_chkE hr
    obtain ⟨v4, e4, hr⟩ := m_bndE hr
    exact fin 12 v4 (by unfold ndJ; rw [if_neg d0, if_neg d1, if_neg d2, if_neg d3, if_pos d4]) e4 (Option.some.inj hr).symm
  · obtain ⟨-, hr⟩ := m_chkE hr
    obtain ⟨v4, e4, hr⟩ := m_bndE hr
    exact fin 14 v4 (by unfold ndJ; rw [if_neg d0, if_neg d1, if_neg d2, if_neg d3, if_neg d4]) e4 (Option.some.inj hr).symm
theorem an_node {o : (Nat × Int32) × ZS} (hC : CG S) (hR : RIt I A) (h : FM I A S) (h2 : f_node x1 x2 I A = some o2) (ho : d_X11_node 1 x1 x2 S = some o) : (o.1.1 = 0 ∧ o2.2.1 0 = 0 ∧ o.1.2 = o2.1) ∨ (o.1.1 = 2 ∧ o2.2.1 0 = 1) := by
  obtain ⟨hm, g, L, st, T, r, c, w⟩ := h
  obtain ⟨⟨p7, gc⟩, gr, -⟩ := id w
  obtain ⟨hw, -, -, h3⟩ := fw_w w
  have hgg := (sc_7 hm.1 p7).1
  have h5b : 0 ≤ (I 5).toInt ∧ (I 5).toInt ≤ 1 := hR.1 5
  have hf : d_X11_node_0 1 x1 x2 S = some o := ho
  have hr : f_node_0 x1 x2 I A = some o2 := h2
  have bad : f_node_18 x1 x2 I A = some o2 → o2.2.1 0 = 1 := fun hb => by
    unfold f_node_18 f_node_23 at hb
    obtain ⟨I1, e1, hb⟩ := m_bndE hb
    rcases m_ifE hb with ⟨d, hb⟩ | ⟨-, hb⟩
    · rw [e1, upd_self] at d
      exact absurd d (by decide)
    · have e2 := (Option.some.inj hb).symm
      rw [e2]
      show I1 0 = 1
      rw [e1, upd_self]
  unfold d_X11_node_0 at hf
  unfold f_node_0 at hr
  obtain ⟨-, hf⟩ := m_chkE hf
  replace hf := m_calY hf p7
  obtain ⟨-, hf⟩ := m_chkE hf
  obtain ⟨⟨y2, S2⟩, h_2, hf⟩ := m_calE hf
  obtain ⟨-, hf⟩ := m_chkE hf
  obtain ⟨e2, q2⟩ := fm_has hC hgg gc.1.1 h_2
  dsimp only at e2 q2 hf
  rw [e2] at hf
  obtain ⟨⟨r1, Ic1, Ac1⟩, h_r1, hr⟩ := m_clE hr
  dsimp only at hr
  obtain ⟨e1, q1⟩ := fm_isNode h5b hR.2.1 gr.1.1 h_r1
  have i1 : Ic1 = I := congrArg Prod.fst e1
  have a1 : Ac1 = A := congrArg Prod.snd e1
  rw [i1, a1] at hr
  dsimp only at q1
  rcases m_ifE hf with ⟨d, hf⟩ | ⟨d, hf⟩
  · rw [d] at q2
    have hn : ¬ (0 ≤ x1.toInt ∧ x1.toInt ≤ (tn T : Int)) := by
      rcases q2 with ⟨q, -⟩ | ⟨-, q⟩
      · exact absurd q (by decide)
      · exact q
    have eo := (Option.some.inj hf).symm
    rcases m_ifE hr with ⟨-, hr⟩ | ⟨d2, hr⟩
    · rw [eo]
      exact Or.inr ⟨rfl, bad hr⟩
    · rcases q1 with ⟨-, q⟩ | ⟨q, -⟩
      · exact absurd q hn
      · exact absurd (i32_of q) d2
  · have hn : 0 ≤ x1.toInt ∧ x1.toInt ≤ (tn T : Int) := by
      rcases q2 with ⟨-, q⟩ | ⟨q, -⟩
      · exact q
      · exact absurd (i32_of q) d
    obtain ⟨nd, hx⟩ : ∃ nd : Nat, x1.toInt = (nd : Int) := ⟨x1.toInt.toNat, by omega⟩
    have hnd : nd ≤ tn T := by omega
    have ex : x1.toInt.toNat = nd := by omega
    rcases m_ifE hr with ⟨d2, hr⟩ | ⟨-, hr⟩
    · rw [d2] at q1
      rcases q1 with ⟨q, -⟩ | ⟨-, q⟩
      · exact absurd q (by decide)
      · exact absurd hn q
    · have h5e : (I 5).toInt = (((I 5).toInt.toNat : Nat) : Int) := by omega
      have hg1 : (I 5).toInt.toNat ≤ 1 := by omega
      have hn3 : nd ≤ 300 := by omega
      have good : ¬ (x2 < 0) → x2 ≤ 5 → o2.2.1 0 = 0 ∧ o2.1 = A (ndJ x2) (301 * (I 5).toInt.toNat + nd) := fun n0 n5 => by
        rcases m_ifE hr with ⟨d4, -⟩ | ⟨-, hr⟩
        · exact absurd d4 n0
        · rcases m_ifE hr with ⟨-, hr⟩ | ⟨d5, -⟩
          · exact nd_g h5e hg1 hx hn3 hr
          · exact absurd n5 d5
      have tcK := gc.1.1.2.2.2 nd hnd
      have trK := gr.1.1.2.2 nd hnd
      have hdc := trc_hd gc.1.1 hnd
      have hdr := trr_hd gr.1.1 hnd
      have nxt := nx_all hw gc.1.1 gr.1.1 hnd
      obtain ⟨nk4, nk6, nkr, -⟩ := nk_nd hC hgg nd
      obtain ⟨-, hf⟩ := m_chkE hf
      replace hf := m_calY hf p7
      obtain ⟨-, hf⟩ := m_chkE hf
      obtain ⟨⟨n4, S4⟩, h_4, hf⟩ := m_calE hf
      obtain ⟨e4, q4⟩ := p_at hC hgg gc.1.1 hn.1 hn.2 h_4
      rw [ex] at q4
      obtain ⟨-, hf⟩ := m_chkE hf
      dsimp only at hf
      rw [e4, q4] at hf
      have fin : ∀ (v : Int32) (q : Nat), x2 = x2 → ¬ (x2 < 0) → x2 ≤ 5 → ndJ x2 = q → v.toInt = (A q (301 * (I 5).toInt.toNat + nd)).toInt → o = ((0, v), S) → (o.1.1 = 0 ∧ o2.2.1 0 = 0 ∧ o.1.2 = o2.1) ∨ (o.1.1 = 2 ∧ o2.2.1 0 = 1) := fun v q _ n0 n5 hq hv he => by
        obtain ⟨g0, g1⟩ := good n0 n5
        rw [he]
        exact Or.inl ⟨rfl, g0, Int32.toInt_inj.1 (by rw [g1, hq]; exact hv)⟩
      rcases m_ifE hf with ⟨d0, hf⟩ | ⟨d0, hf⟩
      · obtain ⟨-, hf⟩ := m_chkE hf
        refine fin _ 8 rfl (by rw [d0]; decide) (by rw [d0]; decide) (by rw [d0]; rfl) ?_ (Option.some.inj hf).symm
        exact tcK.1.1.trans trK.1.1.symm
      rcases m_ifE hf with ⟨d1, hf⟩ | ⟨d1, hf⟩
      · obtain ⟨-, hf⟩ := m_chkE hf
        refine fin _ 9 rfl (by rw [d1]; decide) (by rw [d1]; decide) (by rw [d1]; rfl) ?_ (Option.some.inj hf).symm
        exact tcK.1.2.trans trK.1.2.symm
      rcases m_ifE hf with ⟨d2, hf⟩ | ⟨d2, hf⟩
      · obtain ⟨-, hf⟩ := m_chkE hf
        refine fin _ 10 rfl (by rw [d2]; decide) (by rw [d2]; decide) (by rw [d2]; rfl) ?_ (Option.some.inj hf).symm
        exact hdc.trans hdr.symm
      rcases m_ifE hf with ⟨d3, hf⟩ | ⟨d3, hf⟩
      · obtain ⟨-, hf⟩ := m_chkE hf
        refine fin _ 11 rfl (by rw [d3]; decide) (by rw [d3]; decide) (by rw [d3]; rfl) ?_ (Option.some.inj hf).symm
        exact nxt
      rcases m_ifE hf with ⟨d4, hf⟩ | ⟨d4, hf⟩
      · obtain ⟨-, hf⟩ := m_chkE hf
        refine fin _ 12 rfl (by rw [d4]; decide) (by rw [d4]; decide) (by rw [d4]; rfl) ?_ (Option.some.inj hf).symm
        exact tcK.2.1.1.trans trK.2.1.1.symm
      rcases m_ifE hf with ⟨d5, hf⟩ | ⟨d5, hf⟩
      · obtain ⟨-, hf⟩ := m_chkE hf
        replace hf := m_calY hf nk6
        obtain ⟨-, hf⟩ := m_chkE hf
        obtain ⟨⟨y6, S6⟩, h_6, hf⟩ := m_calE hf
        have q6 := pc_X6_size h_6
        have e6 : S6 = S := ro_X6_size h_6
        obtain ⟨-, hf⟩ := m_chkE hf
        dsimp only at q6 hf
        rw [e6] at hf
        refine fin y6 14 rfl (by rw [d5]; decide) (by rw [d5]; decide) (by rw [d5]; rfl) ?_ (Option.some.inj hf).symm
        rw [q6]
        exact tcK.2.2.1.trans trK.2.2.1.symm
      · have eo := (Option.some.inj hf).symm
        rw [eo]
        refine Or.inr ⟨rfl, ?_⟩
        rcases m_ifE hr with ⟨-, hr⟩ | ⟨n0, hr⟩
        · exact bad hr
        · rcases m_ifE hr with ⟨n5, hr⟩ | ⟨-, hr⟩
          · have z0 : (0 : Int32).toInt = 0 := rfl
            have z1 : (1 : Int32).toInt = 1 := rfl
            have z2 : (2 : Int32).toInt = 2 := rfl
            have z3 : (3 : Int32).toInt = 3 := rfl
            have z4 : (4 : Int32).toInt = 4 := rfl
            have z5 : (5 : Int32).toInt = 5 := rfl
            replace n0 := ti_ltN (a := x2) (b := (0 : Int32)) n0 rfl z0
            replace n5 := ti_leP (a := x2) (b := (5 : Int32)) n5 rfl z5
            have f0 := ti_eqN (a := x2) (b := (0 : Int32)) d0 rfl z0
            have f1 := ti_eqN (a := x2) (b := (1 : Int32)) d1 rfl z1
            have f2 := ti_eqN (a := x2) (b := (2 : Int32)) d2 rfl z2
            have f3 := ti_eqN (a := x2) (b := (3 : Int32)) d3 rfl z3
            have f4 := ti_eqN (a := x2) (b := (4 : Int32)) d4 rfl z4
            have f5 := ti_eqN (a := x2) (b := (5 : Int32)) d5 rfl z5
            omega
          · exact bad hr
end NOD
