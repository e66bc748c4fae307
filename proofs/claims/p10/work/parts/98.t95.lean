/-- both sides between two calls: the text, the result and the number of tags of the game that stands -/
noncomputable def SR (I : Nat → Int32) (A : Nat → Nat → Int32) (S : ZS) : Prop := SM I A S ∧ ∀ g', zP S 7 1 = some g' → zI S 6 g' = A 23 (I 5).toInt.toNat ∧ zI S 5 g' = A 18 (I 5).toInt.toNat
section SRS
variable {S S' : ZS} {g g' : Nat} {I I' : Nat → Int32} {A A' : Nat → Nat → Int32} {W V : List (Nat × Nat)} {B : List Nat} {x1 : Int32}
theorem sc_7 (h : SC S) (p7 : zP S 7 1 = some g') : (g' = 35 ∨ g' = 99) ∧ zK S g' = 1 := by
  obtain ⟨hx, g1, g2, h1, h2, h3⟩ := h
  rw [p7] at h3
  cases h3
  have hg := gg_g (gg_s h1)
  exact ⟨hg, (fx_g hx.1 hg).1.1⟩
theorem sr_z (h : SR I A S) (hs : SM I' A' S') (f : FrZ W V B S S') (hF : Fh S) (hW : (1, 5) ∉ W ∧ (1, 6) ∉ W ∧ (11, 7) ∉ V) (h5 : I' 5 = I 5) (h18 : A' 18 = A 18) (h23 : A' 23 = A 23) : SR I' A' S' := by
  refine ⟨hs, fun g' p7 => ?_⟩
  have q := (f hF).2.2
  have k1 : zK S 1 = 11 := fx_k h.1.1.1.1 (by decide) (by decide)
  have p70 : zP S 7 1 = some g' := by rw [← (q 1 (by rw [k1]; decide)).2.2.2.1 7 (by rw [k1]; exact hW.2.2)]; exact p7
  obtain ⟨hg, kg⟩ := sc_7 h.1.1 p70
  obtain ⟨a1, a2⟩ := h.2 g' p70
  have e := (q g' (by rw [kg]; decide)).2.2.1
  rw [e 6 (by rw [kg]; exact hW.2.1), e 5 (by rw [kg]; exact hW.1), h5, h18, h23]
  exact ⟨a1, a2⟩
theorem sr_c (hK : zK S' = zK S) (hI : zI S' = zI S) (hP : zP S' = zP S) (hN : zN S' = zN S) (hA : zA S' = zA S) (hB : zB S' = zB S) (h : SR I A S) : SR I A S' := by
  refine ⟨sm_c hK hI hP hN hA hB h.1, ?_⟩
  rw [hP, hI]
  exact h.2
theorem sr_read {o2 : Int32 × MS} {o : Int32 × ZS} (hC : CG S) (hI : TJ I) (hA : TK A) (h : SR I A S) (h2 : f_read I A = some o2) (ho : d_X11_read 1 S = some o) : SR o2.2.1 o2.2.2 o.2 := by
  have hs := h.1
  refine ⟨sm_read hC hI hA hs h2 ho, fun q p7' => ?_⟩
  obtain ⟨g, g', hg, p3, p7⟩ := hs.1.2
  have wb := hs.2.2.2
  have b5 : 0 ≤ (I 5).toInt ∧ (I 5).toInt ≤ 1 := hI 5
  rcases p_read hC hg p3 p7 hs.2 ho with ⟨L, st, T, r, a1, a2, a3, a4, a5, a6, a7, -⟩ | ⟨a1, a2, a3⟩
  · rcases v_read (g := 1 - (I 5).toInt.toNat) hI hA rfl rfl wb.1 wb.2 (by omega) (by omega) h2 with ⟨L', st', T', r', b1, b2, b3, b4, b5', b6⟩ | ⟨b1, -⟩
    · rw [a1] at b1
      cases b1
      rw [a5] at p7'
      cases p7'
      have e5 : (o2.2.1 5).toInt.toNat = 1 - (I 5).toInt.toNat := by omega
      rw [e5]
      refine ⟨Int32.toInt_inj.1 (a7.2.2.2.2.trans b6.2.2.2.symm), Int32.toInt_inj.1 (a7.2.2.1.1.trans ?_)⟩
      have := b6.2.2.1.1
      rw [Int.toNat_natCast] at this
      exact this.symm
    · rw [a1] at b1; cases b1
  · rcases v_read (g := 1 - (I 5).toInt.toNat) hI hA rfl rfl wb.1 wb.2 (by omega) (by omega) h2 with ⟨L', st', T', r', b1, -⟩ | ⟨b1, b2, b3, b4, b5', -⟩
    · rw [a1] at b1; cases b1
    · have D := rdt_read (g := 1 - (I 5).toInt.toNat) hI hA rfl rfl wb.1 wb.2 (by omega) (by omega) h2
      have k1 : zK S 1 = 11 := fx_k hs.1.1.1 (by decide) (by decide)
      have e1 : EQc S (zsP S 2 23 (some 2)) 1 := eqc_P rfl (by decide)
      have q7 := (a3 1 (by show zK S 1 < 18; rw [k1]; decide)).1.2.2.1 (by show vPk (zK S 1) = false; rw [k1]; rfl) 7
      rw [q7, e1.2.2.2.1, p7] at p7'
      cases p7'
      obtain ⟨hgr, kg⟩ := sc_7 hs.1 p7
      have eg := fr_e a3 (a := q) (by show zK S q < 18; rw [kg]; decide) (fun hn => hn (Or.inr (Or.inr (Or.inr (Or.inr (Or.inl ⟨Nat.le_refl _, by omega⟩))))))
      have i6 : zI o.2 6 q = zI S 6 q := eg.2.2.1 6
      have i5 : zI o.2 5 q = zI S 5 q := eg.2.2.1 5
      have z1 : (I 5).toInt.toNat / 1 ≠ 1 - (I 5).toInt.toNat := by omega
      rw [i6, i5, b5', D.2 23 (by decide) (by decide) _ z1, D.2 18 (by decide) (by decide) _ z1]
      exact h.2 q p7
theorem sr_end {o2 : Int32 × MS} {o : (Nat × Int32) × ZS} (h5b : 0 ≤ (I 5).toInt ∧ (I 5).toInt ≤ 1) (h : SR I A S) (hs : SM o2.2.1 o2.2.2 o.2) (h2 : f_end x1 I A = some o2) (ho : d_X11_end 1 x1 S = some o) : SR o2.2.1 o2.2.2 o.2 := by
  refine ⟨hs, fun q p7' => ?_⟩
  have hf : d_X11_end_0 1 x1 S = some o := ho
  have hg : f_end_0 x1 I A = some o2 := h2
  have k1 : zK S 1 = 11 := fx_k h.1.1.1.1 (by decide) (by decide)
  have n5 : (I 5).toNatClampNeg = (I 5).toInt.toNat := cl_n (by omega)
  have f5 : o2.2.1 5 = I 5 := (fw_end h2).1 5 (by decide)
  have f18 : o2.2.2 18 = A 18 := (fw_end h2).2 18 (by decide)
  have z0 : (0 : Int32).toInt = 0 := rfl
  have z3 : (3 : Int32).toInt = 3 := rfl
  have z4 : (4 : Int32).toInt = 4 := rfl
  have c46 : ∀ {t0 t1 : Int32} {J : Nat → Int32}, f_end_46 t0 t1 J A = some o2 → o2.2.2 23 = upd (A 23) t1.toNatClampNeg t0 := fun hh => by
    unfold f_end_46 at hh
    obtain ⟨-, hh⟩ := m_chkE hh
    obtain ⟨A1, e1, hh⟩ := m_bndE hh
    cases hh
    show A1 23 = _
    rw [e1, va_up_self]
  have r15 : ∀ {t0 : Int32}, f_end_15 x1 t0 I A = some o2 → t0 = 0 → o2.2.2 23 = upd (A 23) (I 5).toInt.toNat x1 := fun {t0} hh ht => by
    unfold f_end_15 at hh
    obtain ⟨I1, e1, hh⟩ := m_bndE hh
    have j5 : I1 5 = I 5 := by rw [e1, upd_ne (by decide)]
    have j0 : I1 0 = t0 := by rw [e1, upd_self]
    rcases m_ifE hh with ⟨-, hh⟩ | ⟨c, hh⟩
    · have := c46 hh
      rw [this, j5, n5]
    · exact absurd (show I1 0 ≤ 0 by rw [j0, ht]; decide) c
  have r10 : f_end_10 x1 I A = some o2 → o2.2.2 23 = A 23 := fun hh => by
    unfold f_end_10 f_end_15 at hh
    obtain ⟨I1, e1, hh⟩ := m_bndE hh
    have j0 : I1 0 = 1 := by rw [e1, upd_self]
    have j5 : I1 5 = I 5 := by rw [e1, upd_ne (by decide)]
    rcases m_ifE hh with ⟨c, hh⟩ | ⟨-, hh⟩
    · rw [j0] at c; exact absurd c (by decide)
    · obtain ⟨-, hh⟩ := m_chkE hh
      obtain ⟨v2, e2, hh⟩ := m_bndE hh
      have := c46 hh
      rw [this, e2]
      funext i
      by_cases ei : i = (I1 5).toNatClampNeg
      · rw [ei, upd_self]
      · rw [upd_ne ei]
  unfold d_X11_end_0 at hf
  unfold f_end_0 at hg
  have thr : d_X11_end_9 S = some o → f_end_10 x1 I A = some o2 → zI o.2 6 q = o2.2.2 23 (o2.2.1 5).toInt.toNat ∧ zI o.2 5 q = o2.2.2 18 (o2.2.1 5).toInt.toNat := fun hh hg => by
    unfold d_X11_end_9 at hh
    cases hh
    rw [f5, f18, r10 hg]
    exact h.2 q p7'
  rcases m_ifE hf with ⟨c, hf⟩ | ⟨c, hf⟩
  · rcases m_ifE hg with ⟨-, hg⟩ | ⟨c2, hg⟩
    · exact thr hf hg
    · exact absurd c c2
  · rcases m_ifE hg with ⟨c2, hg⟩ | ⟨-, hg⟩
    · exact absurd c2 c
    · rcases m_ifE hf with ⟨c3, hf⟩ | ⟨c3, hf⟩
      · replace c3 := ti_ltP (a := x1) (b := (4 : Int32)) c3 rfl z4
        rcases m_ifE hg with ⟨c4, hg⟩ | ⟨c4, hg⟩
        · obtain ⟨-, hf⟩ := m_chkE hf
          obtain ⟨b1, p7, hf⟩ := m_calE hf
          obtain ⟨kb, hf⟩ := m_chkE hf
          obtain ⟨S2, e2, hf⟩ := m_bndE hf
          cases hf
          have p7' : zP S2 7 1 = some q := p7'
          rw [e2] at p7'
          have p7' : zP S 7 1 = some q := p7'
          rw [p7] at p7'
          cases p7'
          show zI S2 6 q = _ ∧ zI S2 5 q = _
          rw [f5, f18, r15 hg rfl, upd_self, e2, zI_self, zI_j (by decide)]
          exact ⟨rfl, (h.2 q p7).2⟩
        · replace c4 := ti_leN (a := x1) (b := (3 : Int32)) c4 rfl z3
          omega
      · replace c3 := ti_ltN (a := x1) (b := (4 : Int32)) c3 rfl z4
        rcases m_ifE hg with ⟨c4, hg⟩ | ⟨c4, hg⟩
        · replace c4 := ti_leP (a := x1) (b := (3 : Int32)) c4 rfl z3
          omega
        · exact thr hf hg
theorem sr_result {o2 : Int32 × MS} {o : Int32 × ZS} (h5b : 0 ≤ (I 5).toInt ∧ (I 5).toInt ≤ 1) (h : SR I A S) (h2 : f_result I A = some o2) (ho : f_X11_result 1 S = some o) : o.1 = o2.1 := by
  have hf : f_X11_result_0 1 S = some o := ho
  have hg : f_result_0 I A = some o2 := h2
  have n5 : (I 5).toNatClampNeg = (I 5).toInt.toNat := cl_n (by omega)
  unfold f_X11_result_0 at hf
  unfold f_result_0 at hg
  obtain ⟨-, hf⟩ := m_chkE hf
  obtain ⟨b1, p7, hf⟩ := m_calE hf
  obtain ⟨-, hf⟩ := m_chkE hf
  obtain ⟨I1, e1, hg⟩ := m_bndE hg
  obtain ⟨-, hg⟩ := m_chkE hg
  obtain ⟨v2, e2, hg⟩ := m_bndE hg
  cases hf
  cases hg
  have j5 : I1 5 = I 5 := by rw [e1, upd_ne (by decide)]
  show zI S 6 b1 = v2
  rw [e2, j5, n5]
  exact (h.2 b1 p7).1
theorem sr_tags {o2 : Int32 × MS} {o : Int32 × ZS} (h5b : 0 ≤ (I 5).toInt ∧ (I 5).toInt ≤ 1) (h : SR I A S) (h2 : f_tags I A = some o2) (ho : f_X11_tags 1 S = some o) : o.1 = o2.1 := by
  have hf : f_X11_tags_0 1 S = some o := ho
  have hg : f_tags_0 I A = some o2 := h2
  have n5 : (I 5).toNatClampNeg = (I 5).toInt.toNat := cl_n (by omega)
  unfold f_X11_tags_0 at hf
  unfold f_tags_0 at hg
  obtain ⟨-, hf⟩ := m_chkE hf
  obtain ⟨b1, p7, hf⟩ := m_calE hf
  obtain ⟨-, hf⟩ := m_chkE hf
  obtain ⟨I1, e1, hg⟩ := m_bndE hg
  obtain ⟨-, hg⟩ := m_chkE hg
  obtain ⟨v2, e2, hg⟩ := m_bndE hg
  cases hf
  cases hg
  have j5 : I1 5 = I 5 := by rw [e1, upd_ne (by decide)]
  show zI S 5 b1 = v2
  rw [e2, j5, n5]
  exact (h.2 b1 p7).2
theorem v_clear23 {o : Int32 × MS} (hg : g ≤ 1) (h1 : x1.toInt = (g : Int)) (hf : f_clearGame x1 I A = some o) : o.2.2 23 g = 0 := by
  have hf : f_clearGame_0 x1 I A = some o := hf
  have xn : x1.toNatClampNeg = g := cl_n h1
  unfold f_clearGame_0 at hf
  obtain ⟨-, hf⟩ := m_chkE hf
  obtain ⟨A1, e1, hf⟩ := m_bndE hf
  obtain ⟨-, hf⟩ := m_chkE hf
  obtain ⟨A2, e2, hf⟩ := m_bndE hf
  obtain ⟨-, hf⟩ := m_chkE hf
  obtain ⟨A3, e3, hf⟩ := m_bndE hf
  obtain ⟨v4, e4, hf⟩ := m_bndE hf
  have t4 : v4.toInt = 301 * x1.toInt := ti_mul e4 (show (301 : Int32).toInt = 301 from rfl) rfl (by omega) (by omega)
  have i4 : v4.toNatClampNeg = 301 * g := cl_n (by omega)
  obtain ⟨⟨r5, Ic5, Ac5⟩, h_r5, hf⟩ := m_clE hf
  dsimp only at hf
  have h5 : f_clearNode_0 v4 I A3 = some (r5, Ic5, Ac5) := h_r5
  unfold f_clearNode_0 at h5
  obtain ⟨-, h5⟩ := m_chkE h5
  obtain ⟨B1, n1, h5⟩ := m_bndE h5
  obtain ⟨-, h5⟩ := m_chkE h5
  obtain ⟨B2, n2, h5⟩ := m_bndE h5
  obtain ⟨-, h5⟩ := m_chkE h5
  obtain ⟨B3, n3, h5⟩ := m_bndE h5
  obtain ⟨-, h5⟩ := m_chkE h5
  obtain ⟨B4, n4, h5⟩ := m_bndE h5
  have i5 := Option.some.inj h5
  have j1 : I = Ic5 := congrArg (fun z => z.2.1) i5
  have j2 : B4 = Ac5 := congrArg (fun z => z.2.2) i5
  rw [← j1, ← j2] at hf
  obtain ⟨v6, e6, hf⟩ := m_bndE hf
  have t6 : v6.toInt = 301 * x1.toInt := ti_mul e6 (show (301 : Int32).toInt = 301 from rfl) rfl (by omega) (by omega)
  have i6 : v6.toNatClampNeg = 301 * g := cl_n (by omega)
  obtain ⟨-, hf⟩ := m_chkE hf
  obtain ⟨A7, e7, hf⟩ := m_bndE hf
  obtain ⟨v8, e8, hf⟩ := m_bndE hf
  have t8 : v8.toInt = 301 * x1.toInt := ti_mul e8 (show (301 : Int32).toInt = 301 from rfl) rfl (by omega) (by omega)
  have i8 : v8.toNatClampNeg = 301 * g := cl_n (by omega)
  obtain ⟨-, hf⟩ := m_chkE hf
  obtain ⟨A9, e9, hf⟩ := m_bndE hf
  rw [xn] at e1 e2 e3
  rw [i4] at n1 n2 n3 n4
  rw [i6] at e7
  rw [i8] at e9
  cases hf
  show A9 23 g = 0
  rw [e9, va_up_ne _ _ (by decide), e7, va_up_ne _ _ (by decide), n4, va_up_ne _ _ (by decide), n3, va_up_ne _ _ (by decide), n2, va_up_ne _ _ (by decide), n1, va_up_ne _ _ (by decide), e3, va_up_self, upd_self]
end SRS
