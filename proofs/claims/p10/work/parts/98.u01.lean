/-- both sides between two calls: also the tags of the game that stands -/
noncomputable def ST (I : Nat → Int32) (A : Nat → Nat → Int32) (S : ZS) : Prop := SR I A S ∧ ∃ g' L, zP S 7 1 = some g' ∧ TGk S g' L ∧ TGr A (((I 5).toInt.toNat : Nat) : Int) L
section STS
variable {S S' : ZS} {g g' : Nat} {I I' : Nat → Int32} {A A' : Nat → Nat → Int32} {W V : List (Nat × Nat)} {B C : List Nat} {Q : Nat → Prop} {L : List (List Int × List Int)} {x1 x2 x3 : Int32}
theorem tgk_o (h : TGk S g L) (e5 : zI S' 5 g = zI S 5 g) (eb : zB S' (g + 6) = zB S (g + 6)) (er : ∀ i t, zB S (g + 6) i = some t → ∀ w r, (r = t + 1 ∨ r = t + 2) → RWL S r w → RWL S' r w) : TGk S' g L := by
  obtain ⟨h1, h2, h3⟩ := h
  refine ⟨by rw [e5]; exact h1, h2, fun i hi => ?_⟩
  obtain ⟨t, t1, t2, t3⟩ := h3 i hi
  exact ⟨t, by rw [eb]; exact t1, er i t t1 _ _ (Or.inl rfl) t2, er i t t1 _ _ (Or.inr rfl) t3⟩
theorem tgk_ke (hx : CGx S) (hg : g = 35 ∨ g = 99) (h : TGk S g L) (k : KE S S') : TGk S' g L := by
  obtain ⟨⟨kg, -⟩, ⟨-, -, -, -, -, k6, -⟩, -⟩ := fx_g hx.1 hg
  have eg := k g (by rw [kg]; decide) (by unfold KP9; omega)
  have e6 := k (g + 6) (by rw [k6]; decide) (by unfold KP9; omega)
  refine tgk_o h (eg.2.2.1 5) e6.2.2.2.2.1 (fun i t ht w r hr hw => ?_)
  obtain ⟨t1, -, -, -, t5, t6⟩ := (cgx_g hx hg).2 i t ht
  have kr : zK S r = 6 := by
    rcases hr with e | e
    · rw [e]; exact t5
    · rw [e]; exact t6
  exact eqc_rl (k r (by rw [kr]; decide) (Or.inr (Or.inr (by omega)))) kr hw
theorem tgk_fq (hx : CGx S) (hg : g = 35 ∨ g = 99) (h : TGk S g L) (hF : FR Q S S') (h0 : ¬ Q g ∧ ¬ Q (g + 6)) (hr : ∀ i t, zB S (g + 6) i = some t → ¬ Q (t + 1) ∧ ¬ Q (t + 2)) : TGk S' g L := by
  obtain ⟨⟨kg, -⟩, ⟨-, -, -, -, -, k6, -⟩, -⟩ := fx_g hx.1 hg
  have eg := fr_e hF (a := g) (by rw [kg]; decide) h0.1
  have e6 := fr_e hF (a := g + 6) (by rw [k6]; decide) h0.2
  refine tgk_o h (eg.2.2.1 5) e6.2.2.2.2.1 (fun i t ht w r hrr hw => ?_)
  obtain ⟨t1, -, -, -, t5, t6⟩ := (cgx_g hx hg).2 i t ht
  obtain ⟨q1, q2⟩ := hr i t ht
  rcases hrr with e | e
  · subst e; exact eqc_rl (fr_e hF (by rw [t5]; decide) q1) t5 hw
  · subst e; exact eqc_rl (fr_e hF (by rw [t6]; decide) q2) t6 hw
theorem rwl_z {r : Nat} {w : List Int} (hT : ZT S) (kr : zK S r = 6) (f : FrZ W V B S S') (fa : FrA C S S') (hW : (6, 1) ∉ W ∧ (6, 0) ∉ V ∧ 13 ∉ C) (h : RWL S r w) : RWL S' r w := by
  have q := (f hT.2.2.2.2.1).2.2 r (by rw [kr]; decide)
  rw [kr] at q
  have e1 := q.2.2.1 1 hW.1
  have e0 := q.2.2.2.1 0 hW.2.1
  obtain ⟨c, pc, kc, s0, s1, -⟩ := hT.2.1 r kr
  refine ⟨by rw [e1]; exact h.1, fun i => ?_⟩
  rw [← h.2 i]
  unfold rwC
  rw [e1, e0, pc]
  by_cases hi : 0 ≤ i ∧ i < (zI S 1 r).toInt
  · rw [if_pos hi, if_pos hi]
    rcases kc with ec | ec
    · exfalso
      rw [ec] at s1
      have : zcap S 0 = 0 := if_pos rfl
      rw [this] at s1
      have z : ((0 : Nat) : Int) = 0 := rfl
      omega
    · have := ((fa hT.2.2.2.2.1).2 c (by rw [ec]; decide)).2 (by rw [ec]; exact hW.2.2)
      show (zA S' c i.toNat).toInt = (zA S c i.toNat).toInt
      rw [this]
  · rw [if_neg hi, if_neg hi]
theorem tgk_z (hT : ZT S) (hx : CGx S) (hg : g = 35 ∨ g = 99) (h : TGk S g L) (f : FrZ W V B S S') (fa : FrA C S S') (hW : (1, 5) ∉ W ∧ 17 ∉ B) (hR : (6, 1) ∉ W ∧ (6, 0) ∉ V ∧ 13 ∉ C) : TGk S' g L := by
  obtain ⟨⟨kg, -⟩, ⟨-, -, -, -, -, k6, -⟩, -⟩ := fx_g hx.1 hg
  have q := (f hT.2.2.2.2.1).2.2
  have qg := q g (by rw [kg]; decide)
  have q6 := q (g + 6) (by rw [k6]; decide)
  rw [kg] at qg
  rw [k6] at q6
  refine tgk_o h (qg.2.2.1 5 hW.1) (q6.2.2.2.2 hW.2) (fun i t ht w r hr hw => ?_)
  obtain ⟨t1, -, -, -, t5, t6⟩ := (cgx_g hx hg).2 i t ht
  have kr : zK S r = 6 := by
    rcases hr with e | e
    · rw [e]; exact t5
    · rw [e]; exact t6
  exact rwl_z hT kr f fa hR hw
/-- a node more: only nodes, the game's count and list, and one row of a node change -/
theorem gz_102f {SX : ZS} {c n : Nat} {o : Int32 × ZS} (hx : CGx S) (hg : GG g g') (hn : n < 300) (hX : GXn S SX g c n) (hf : d_X1_grow_102 g x1 x2 x3 SX = some o) : FR (fun a => zK SX a = 4 ∨ a = c + 1) SX o.2 := by
  obtain ⟨⟨kg, p0, p1, p2, p4, p7⟩, ⟨k1, k2', k3, k4, k5, k6, k7⟩, -⟩ := fx_g hx.1 (gg_g hg)
  obtain ⟨⟨b1, b2⟩, i3, iO, FX, old, ⟨c1, c2, c3, c4⟩, TX⟩ := hX
  have kgX : zK SX g = 1 := (fr_k FX (by rw [kg]; decide)).trans kg
  have q := (FX g (by rw [kg]; decide)).1.2.2.1 (by rw [kg]; rfl)
  have p1X : zP SX 1 g = some (g + 3) := (q 1).trans p1
  have p2X : zP SX 2 g = some (g + 5) := (q 2).trans p2
  have cnX : cn SX g = n + 1 := by unfold cn; rw [i3]; rfl
  have nkc : nk SX (g + 3) (g + 5) (n + 1) = c := by unfold nk; rw [if_neg (by omega), b1]; rfl
  have h147 : ∀ {S1 : ZS}, d_X1_grow_147 g S1 = some o → o.2 = S1 := fun hf => by
    unfold d_X1_grow_147 at hf
    obtain ⟨-, hf⟩ := m_chkE hf
    cases hf
    rfl
  unfold d_X1_grow_102 at hf
  obtain ⟨-, hf⟩ := m_chkE hf
  obtain ⟨-, hf⟩ := m_chkE hf
  obtain ⟨⟨r1, S1⟩, h1, hf⟩ := m_calE hf
  obtain ⟨-, hf⟩ := m_chkE hf
  obtain ⟨-, hf⟩ := m_chkE hf
  have e1 : S1 = SX := ro_X1_at h1
  have q1 : r1 = c := by
    have := (ok_of (t_f_X1_at (x1 := zI SX 3 g) TX kgX) h1).2.2
    rw [nd_nk TX kgX p1X p2X (by omega) (by omega), i3] at this
    rw [show ((n + 1 : Nat) : Int).toNat = n + 1 from rfl, nkc] at this
    exact this
  dsimp only at hf
  rw [e1, q1] at hf
  obtain ⟨⟨y2, S2⟩, h2, hf⟩ := m_calE hf
  obtain ⟨-, hf⟩ := m_chkE hf
  obtain ⟨T2, F2, -⟩ := p_become TX c2 c3 c4 h2
  dsimp only at T2 F2 hf
  have F2' : FR (fun a => zK SX a = 4 ∨ a = c + 1) SX S2 := fr_m F2 (fun a _ e => e.elim (fun e => Or.inl (by rw [e]; exact c2)) Or.inr)
  have lnk : ∀ {j b : Nat} {v : Int32} {S4 : ZS}, zK S2 b = 4 → S4 = zsI S2 j b v → FR (fun a => zK SX a = 4 ∨ a = c + 1) SX S4 := fun {j b v S4} kb e => by
    have f : FR (fun z => z = b) S2 S4 := fr_I e
    intro a ha
    obtain ⟨a1, a2⟩ := F2' a ha
    obtain ⟨d1, d2⟩ := f a (by rw [a1.1]; exact ha)
    rw [a1.1] at d1
    refine ⟨⟨d1.1.trans rfl, d1.2.1.trans a1.2.1, fun hv j => (d1.2.2.1 hv j).trans (a1.2.2.1 hv j), fun hk => (d1.2.2.2 hk).trans (a1.2.2.2 hk)⟩, fun hw => eqc_t (a2 hw) (d2 (fun e => hw (Or.inl (by rw [← a1.1, e]; exact kb))))⟩
  rcases m_ifE hf with ⟨-, hf⟩ | ⟨-, hf⟩
  · obtain ⟨-, hf⟩ := m_chkE hf
    obtain ⟨⟨r5, S5⟩, h5, hf⟩ := m_calE hf
    obtain ⟨-, hf⟩ := m_chkE hf
    obtain ⟨-, hf⟩ := m_chkE hf
    obtain ⟨kb, hf⟩ := m_chkE hf
    obtain ⟨S6, e6, hf⟩ := m_bndE hf
    have e5 : S5 = S2 := ro_X1_at h5
    dsimp only at kb e6
    rw [e5] at kb e6
    rw [h147 hf]
    exact lnk kb e6
  · obtain ⟨-, hf⟩ := m_chkE hf
    obtain ⟨⟨r5, S5⟩, h5, hf⟩ := m_calE hf
    obtain ⟨-, hf⟩ := m_chkE hf
    obtain ⟨-, hf⟩ := m_chkE hf
    obtain ⟨kb, hf⟩ := m_chkE hf
    obtain ⟨S6, e6, hf⟩ := m_bndE hf
    have e5 : S5 = S2 := ro_X1_at h5
    dsimp only at kb e6
    rw [e5] at kb e6
    rw [h147 hf]
    exact lnk kb e6
theorem tgk_grow {o : Int32 × ZS} (hT : ZT S) (h : SC S) (hg : g = 35 ∨ g = 99) (ht : TGk S g L) (hf : d_X1_grow g x1 x2 S = some o) : TGk o.2 g L := by
  have hg2 : ∃ g', GG g g' := hg.elim (fun e => ⟨99, Or.inl ⟨e, rfl⟩⟩) (fun e => ⟨35, Or.inr ⟨e, rfl⟩⟩)
  obtain ⟨g', hg2⟩ := hg2
  have hf : d_X1_grow_0 g x1 x2 S = some o := hf
  unfold d_X1_grow_0 at hf
  obtain ⟨kg, hf⟩ := m_chkE hf
  rcases m_ifE hf with ⟨c1, hf⟩ | ⟨c1, hf⟩
  · replace c1 := ti_ltP (a := zI S 3 g) (b := (300 : Int32)) c1 rfl (show (300 : Int32).toInt = 300 from rfl)
    obtain ⟨-, hf⟩ := m_chkE hf
    obtain ⟨o1, h1, hf⟩ := m_calE hf
    obtain ⟨-, hf⟩ := m_chkE hf
    obtain ⟨-, hf⟩ := m_chkE hf
    have e1 := ro_X1_at h1
    rw [e1] at hf
    obtain ⟨y, hf⟩ := gz_24 _ _ _ _ hf
    have hc := cn_le hT kg
    obtain ⟨SX, c, hX, hf⟩ := gz_64 hT h.1 hg rfl (by omega) hf
    have xX := gz_x h.1 hg2 hX
    have FX := hX.2.2.2.1
    have c2 := hX.2.2.2.2.2.1.2.1
    have c4 := hX.2.2.2.2.2.1.2.2.2
    have tX : TGk SX g L := by
      refine tgk_o ht ?_ ?_ (fun i t hti w r hr hw => ?_)
      · exact hX.2.2.1 5 (by decide)
      · have k6 : zK S (g + 6) = 17 := (fx_g h.1.1 hg).2.1.2.2.2.2.2.1
        exact (fr_e FX (a := g + 6) (by rw [k6]; decide) (by omega)).2.2.2.2.1
      · obtain ⟨t1, -, -, -, t5, t6⟩ := (cgx_g h.1 hg).2 i t hti
        rcases hr with e | e
        · subst e; exact eqc_rl (fr_e FX (by rw [t5]; decide) (by omega)) t5 hw
        · subst e; exact eqc_rl (fr_e FX (by rw [t6]; decide) (by omega)) t6 hw
    have FB := gz_102f h.1 hg2 (by omega) hX hf
    obtain ⟨⟨kgX, -⟩, ⟨-, -, -, -, -, k6X, -⟩, -⟩ := fx_g xX.1 hg
    refine tgk_fq xX hg tX FB ⟨fun e => ?_, fun e => ?_⟩ (fun i t hti => ?_)
    · rcases e with e | e
      · rw [kgX] at e; cases e
      · rw [← e, kgX] at c4; cases c4
    · rcases e with e | e
      · rw [k6X] at e; cases e
      · rw [← e, k6X] at c4; cases c4
    · obtain ⟨t1, t2, -, -, t5, t6⟩ := (cgx_g xX hg).2 i t hti
      refine ⟨fun e => ?_, fun e => ?_⟩
      · rcases e with e | e
        · rw [t5] at e; cases e
        · have ec : t = c := by omega
          rw [ec, c2] at t2; cases t2
      · rcases e with e | e
        · rw [t6] at e; cases e
        · have ec : t + 1 = c := by omega
          rw [ec, c2] at t5; cases t5
  · cases hf
    exact ht
theorem tgk_q (h : TGk S g L) : TGk (zsQ S) g L := h
theorem tgk_95 {r : (Nat × Int32) × ZS} (hT : ZT S) (hx : CGx S) (hg : g = 35 ∨ g = 99) (ht : TGk S g L) (hf : d_X11_add_95 1 x1 x2 S = some r) : TGk r.2 g L := by
  unfold d_X11_add_95 at hf
  obtain ⟨k1, hf⟩ := m_chkE hf
  obtain ⟨S1, e1, hf⟩ := m_bndE hf
  obtain ⟨-, hf⟩ := m_chkE hf
  obtain ⟨b2, -, hf⟩ := m_calE hf
  obtain ⟨-, hf⟩ := m_chkE hf
  obtain ⟨o3, h3, hf⟩ := m_calE hf
  obtain ⟨-, hf⟩ := m_chkE hf
  cases hf
  have f1 : FrZ [(0, 1), (0, 2), (0, 3), (0, 4), (0, 5), (0, 6), (11, 8)] [] [] S S1 := frz_I frz_0 k1 e1 (by decide)
  have a1 : FrA [14] S S1 := fra_I fra_0 e1
  exact tgk_z hT hx hg ht (frz_t f1 (fz_X0_play h3) (by decide) (by decide) (by decide)) (fra_t a1 (fa_X0_play h3) (by decide)) (by decide) (by decide)
theorem tgk_add {r : (Nat × Int32) × ZS} (hT : ZT S) (hZ : TZ S) (hcur : ∀ g', zP S 7 1 = some g' → (zI S 8 1).toInt ≤ (cn S g' : Int)) (h : SC S) (p70 : zP S 7 1 = some g) (ht : TGk S g L) (hf : d_X11_add 1 x1 S = some r) : TGk r.2 g L := by
  have hg : g = 35 ∨ g = 99 := (sc_7 h p70).1
  have hf : d_X11_add_0 1 x1 S = some r := hf
  have h72 : ∀ {S1 : ZS}, TGk S1 g L → d_X11_add_72 S1 = some r → TGk r.2 g L := fun h hf => by
    unfold d_X11_add_72 at hf
    cases hf
    exact tgk_q h
  unfold d_X11_add_0 at hf
  obtain ⟨kx, hf⟩ := m_chkE hf
  obtain ⟨b1, p1, hf⟩ := m_calE hf
  obtain ⟨-, hf⟩ := m_chkE hf
  obtain ⟨b2, p2, hf⟩ := m_calE hf
  obtain ⟨kb1, hf⟩ := m_chkE hf
  obtain ⟨⟨y3, S3⟩, h3, hf⟩ := m_calE hf
  obtain ⟨-, hf⟩ := m_chkE hf
  have k2 : zK S b2 = 0 := by
    obtain ⟨c, q, k⟩ := T_11_9 hT kx
    rw [p2] at q
    cases q
    exact k
  have T3 : ZT S3 := (ok_of (t_f_X7_isLegal (SZ := S) (x0 := b1) (x1 := b2) (x2 := x1) hT (a7_0 S) kb1 k2) h3).1
  have F3 := fz_X7_isLegal h3
  have s3 : SC S3 := sc_z h hT F3 (by decide)
  have Z3 : TZ S3 := tz_fr hT F3 (by decide) hZ
  have t3 : TGk S3 g L := tgk_z hT h.1 hg ht F3 (fa_X7_isLegal h3) (by decide) (by decide)
  dsimp only at hf
  rcases m_ifE hf with ⟨-, hf⟩ | ⟨-, hf⟩
  · cases hf
    exact tgk_q t3
  · obtain ⟨kx3, hf⟩ := m_chkE hf
    obtain ⟨b4, p4, hf⟩ := m_calE hf
    obtain ⟨-, hf⟩ := m_chkE hf
    obtain ⟨kb4, hf⟩ := m_chkE hf
    obtain ⟨o5, h5, hf⟩ := m_calE hf
    obtain ⟨-, hf⟩ := m_chkE hf
    have e5 : o5.2 = S3 := by
      obtain ⟨y, q, -⟩ := roz (t_f_X1_childWith (x1 := zI S3 8 1) (x2 := x1) T3 kb4)
      rw [q] at h5
      cases h5
      rfl
    rw [e5] at hf
    have ex := (F3 hT.2.2.2.2.1).2.2
    have kS1 : zK S 1 = 11 := kx
    have p7 : zP S3 7 1 = some g := by rw [(ex 1 (by rw [kS1]; decide)).2.2.2.1 7 (by rw [kS1]; decide)]; exact p70
    rcases m_ifE hf with ⟨-, hf⟩ | ⟨-, hf⟩
    · obtain ⟨-, hf⟩ := m_chkE hf
      obtain ⟨b6, p6, hf⟩ := m_calE hf
      obtain ⟨-, hf⟩ := m_chkE hf
      rcases m_ifE hf with ⟨-, hf⟩ | ⟨-, hf⟩
      · exact h72 t3 hf
      · obtain ⟨-, hf⟩ := m_chkE hf
        obtain ⟨b7, p7', hf⟩ := m_calE hf
        obtain ⟨-, hf⟩ := m_chkE hf
        obtain ⟨kb7, hf⟩ := m_chkE hf
        obtain ⟨o8, h8, hf⟩ := m_calE hf
        obtain ⟨-, hf⟩ := m_chkE hf
        have e8 : o8.2 = S3 := by
          obtain ⟨y, q, -⟩ := roz (t_f_X1_deepOfNext (x1 := zI S3 8 1) T3 kb7)
          rw [q] at h8
          cases h8
          rfl
        rw [e8] at hf
        rcases m_ifE hf with ⟨-, hf⟩ | ⟨-, hf⟩
        · obtain ⟨-, hf⟩ := m_chkE hf
          obtain ⟨b9, p9, hf⟩ := m_calE hf
          obtain ⟨-, hf⟩ := m_chkE hf
          obtain ⟨kb9, hf⟩ := m_chkE hf
          obtain ⟨⟨y11, S12⟩, h11, hf9⟩ := m_cal2E hf
          have eb : b9 = g := by rw [p7] at p9; exact (Option.some.inj p9).symm
          rw [eb] at h11 kb9
          have kg0 : zK S g = 1 := (sc_7 h p70).2
          have c3 : (zI S3 8 1).toInt ≤ (cn S3 g : Int) := by
            have q1 : zI S3 8 1 = zI S 8 1 := (ex 1 (by rw [kS1]; decide)).2.2.1 8 (by rw [kS1]; decide)
            have q2 : zI S3 3 g = zI S 3 g := (ex g (by rw [kg0]; decide)).2.2.1 3 (by rw [kg0]; decide)
            unfold cn
            rw [q1, q2]
            exact hcur g p70
          have T12 : ZT S12 := (ok_of (t_d_X1_grow (SZ := S3) (x0 := g) (x1 := zI S3 8 1) (x2 := x1) T3 (rp_0 S3) kb9 Z3 (by rcases hg with e | e <;> rw [e] <;> decide) ⟨(J_11_8 T3 kx3).1, c3⟩) h11).1
          have s12 : SC S12 := sc_grow T3 s3 hg h11
          exact tgk_95 T12 s12.1 hg (tgk_grow T3 s3 hg t3 h11) hf9
        · exact h72 t3 hf
    · exact tgk_95 T3 s3.1 hg t3 hf
theorem tgk_2 (hx : CGx S) (hg : g = 35 ∨ g = 99) (h : TGk S g L) (hF : FR (fun a => a = 2) S S') : TGk S' g L :=
  tgk_fq hx hg h hF (by omega) (fun i t ht => by
    have := ((cgx_g hx hg).2 i t ht).1
    omega)
theorem tgk_say {o : (Nat × Int32) × ZS} (hC : CG S) (hs : SM I A S) (hg : g = 35 ∨ g = 99) (p7 : zP S 7 1 = some g) (h : TGk S g L) (ho : d_X11_say 1 S = some o) : TGk o.2 g L := by
  have hx := cg_x hC
  rcases p_say hC hg p7 hs.2 ho with ⟨-, -, -, -, -, F, -⟩ | ⟨-, -, e⟩
  · obtain ⟨kn, -, kn1, hn⟩ := nd_fx (x1 := zI S 8 1) hC hg
    obtain ⟨⟨kg, -⟩, ⟨-, -, -, -, -, k6, -⟩, -⟩ := fx_g hx.1 hg
    refine tgk_fq hx hg h F ⟨fun e => ?_, fun e => ?_⟩ (fun i t ht => ?_)
    · rcases e with e | e
      · omega
      · rw [← e, kg] at kn1; cases kn1
    · rcases e with e | e
      · omega
      · rw [← e, k6] at kn1; cases kn1
    · obtain ⟨t1, t2, -, -, t5, t6⟩ := (cgx_g hx hg).2 i t ht
      refine ⟨fun e => ?_, fun e => ?_⟩
      · rcases e with e | e
        · omega
        · have ec : t = nd S g (zI S 8 1) := by omega
          rw [ec, kn] at t2; cases t2
      · rcases e with e | e
        · omega
        · have ec : t + 1 = nd S g (zI S 8 1) := by omega
          rw [ec, kn] at t5; cases t5
  · rw [e]; exact tgk_q h
theorem tgk_type {x : Int64} {o : Int32 × ZS} (hC : CG S) (hs : SM I A S) (hg : g = 35 ∨ g = 99) (h : TGk S g L) (ho : d_X11_type 1 x x3 S = some o) : TGk o.2 g L := by
  obtain ⟨w, hw, -, -⟩ := tx_l hC hs.2
  rcases p_type hC hw ho with ⟨-, -, -, -, F⟩ | ⟨-, -, e⟩
  · exact tgk_2 (cg_x hC) hg h F
  · rw [e]; exact h
theorem tgk_cut {o : Int32 × ZS} (hC : CG S) (hs : SM I A S) (hg : g = 35 ∨ g = 99) (h : TGk S g L) (ho : f_X11_cut 1 x1 S = some o) : TGk o.2 g L := by
  rcases p_cut hC hs.2 ho with ⟨-, -, -, -, F⟩ | ⟨-, -, e⟩
  · exact tgk_2 (cg_x hC) hg h F
  · rw [e]; exact h
theorem tgr_rdf {g0 : Nat} (h : TGr A ((g0 : Nat) : Int) L) (hg0 : g0 ≤ 1) (hg : g ≤ 1) (hne : g0 ≠ g) (D : RDf A A' g) : TGr A' ((g0 : Nat) : Int) L := by
  obtain ⟨h1, h2, h3⟩ := h
  have e18 : A' 18 g0 = A 18 g0 := D.2 18 (by decide) (by decide) g0 (by rw [show sz 18 = 1 from rfl, Nat.div_one]; exact hne)
  refine ⟨?_, h2, fun i i0 i1 => ?_⟩
  · rw [Int.toNat_natCast] at h1 ⊢
    rw [e18]; exact h1
  · obtain ⟨⟨n1, n2, n3⟩, v1, v2, v3⟩ := h3 i i0 i1
    have e19 : A' 19 (8 * (g0 : Int) + i).toNat = A 19 (8 * (g0 : Int) + i).toNat := D.2 19 (by decide) (by decide) _ (by rw [show sz 19 = 8 from rfl]; omega)
    have e21 : A' 21 (8 * (g0 : Int) + i).toNat = A 21 (8 * (g0 : Int) + i).toNat := D.2 21 (by decide) (by decide) _ (by rw [show sz 21 = 8 from rfl]; omega)
    refine ⟨⟨by rw [e19]; exact n1, n2, fun j j0 j1 => ?_⟩, by rw [e21]; exact v1, v2, fun j j0 j1 => ?_⟩
    · rw [D.2 20 (by decide) (by decide) _ (by rw [show sz 20 = 96 from rfl]; omega)]
      exact n3 j j0 j1
    · rw [D.2 22 (by decide) (by decide) _ (by rw [show sz 22 = 768 from rfl]; omega)]
      exact v3 j j0 j1
theorem sT_gen (h : ST I A S) (hr : SR I' A' S') (h7 : zP S' 7 1 = zP S 7 1) (tk : ∀ g' L, zP S 7 1 = some g' → (g' = 35 ∨ g' = 99) → TGk S g' L → TGk S' g' L) (h5 : I' 5 = I 5) (hA : ∀ j, 18 ≤ j → j ≤ 22 → A' j = A j) : ST I' A' S' := by
  obtain ⟨hs, g', L, p7, tg, tr⟩ := h
  refine ⟨hr, g', L, h7.trans p7, tk g' L p7 (sc_7 hs.1.1 p7).1 tg, ?_⟩
  rw [h5]
  exact tgr_e tr hA
theorem sT_c (hK : zK S' = zK S) (hI : zI S' = zI S) (hP : zP S' = zP S) (hN : zN S' = zN S) (hA : zA S' = zA S) (hB : zB S' = zB S) (h : ST I A S) : ST I A S' := by
  refine ⟨sr_c hK hI hP hN hA hB h.1, ?_⟩
  have h2 := h.2
  unfold TGk RWL rwC at h2 ⊢
  simp only [hI, hP, hA, hB]
  exact h2
theorem fr_7 (hs : SC S) (f : FrZ W V B S S') (hF : Fh S) (hV : (11, 7) ∉ V) : zP S' 7 1 = zP S 7 1 := by
  have k1 : zK S 1 = 11 := fx_k hs.1.1 (by decide) (by decide)
  exact ((f hF).2.2 1 (by rw [k1]; decide)).2.2.2.1 7 (by rw [k1]; exact hV)
theorem sT_read {o2 : Int32 × MS} {o : Int32 × ZS} (hC : CG S) (hI : TJ I) (hA : TK A) (h : ST I A S) (h2 : f_read I A = some o2) (ho : d_X11_read 1 S = some o) : ST o2.2.1 o2.2.2 o.2 := by
  obtain ⟨hr, g', L0, p7, tg, tr⟩ := h
  have hs := hr.1
  refine ⟨sr_read hC hI hA hr h2 ho, ?_⟩
  obtain ⟨g, g2, hg, p3, p72⟩ := hs.1.2
  rw [p7] at p72
  cases p72
  have wb := hs.2.2.2
  have b5 : 0 ≤ (I 5).toInt ∧ (I 5).toInt ≤ 1 := hI 5
  have hgr : g' = 35 ∨ g' = 99 := gg_g (gg_s hg)
  rcases p_read hC hg p3 p7 hs.2 ho with ⟨L, st, T, r, a1, a2, a3, a4, a5, a6, a7, -⟩ | ⟨a1, a2, a3⟩
  · rcases v_read (g := 1 - (I 5).toInt.toNat) hI hA rfl rfl wb.1 wb.2 (by omega) (by omega) h2 with ⟨L', st', T', r', b1, b2, b3, b4, b5', b6⟩ | ⟨b1, -⟩
    · rw [a1] at b1
      cases b1
      have e5 : (o2.2.1 5).toInt.toNat = 1 - (I 5).toInt.toNat := by omega
      exact ⟨g, L, a5, a7.2.2.1, by rw [e5]; exact b6.2.2.1⟩
    · rw [a1] at b1; cases b1
  · rcases v_read (g := 1 - (I 5).toInt.toNat) hI hA rfl rfl wb.1 wb.2 (by omega) (by omega) h2 with ⟨L', st', T', r', b1, -⟩ | ⟨b1, b2, b3, b4, b5', -⟩
    · rw [a1] at b1; cases b1
    · have D := rdt_read (g := 1 - (I 5).toInt.toNat) hI hA rfl rfl wb.1 wb.2 (by omega) (by omega) h2
      have k1 : zK S 1 = 11 := fx_k hs.1.1.1 (by decide) (by decide)
      have e1 : EQc S (zsP S 2 23 (some 2)) 1 := eqc_P rfl (by decide)
      have q7 := (a3 1 (by show zK S 1 < 18; rw [k1]; decide)).1.2.2.1 (by show vPk (zK S 1) = false; rw [k1]; rfl) 7
      have hx := cg_x hC
      have K : ∀ a, zK S a < 18 → a ≠ 23 → KPc (zsP S 2 23 (some 2)) g' a → EQc S o.2 a := fun a ha hn hk => eqc_t (eqc_P rfl hn) (fr_e a3 ha (fun hh => hh hk))
      obtain ⟨⟨kg, -⟩, ⟨-, -, -, -, -, k6, -⟩, -⟩ := fx_g hx.1 hgr
      have eg := K g' (by rw [kg]; decide) (by omega) (Or.inr (Or.inr (Or.inr (Or.inr (Or.inl ⟨Nat.le_refl _, by omega⟩)))))
      have e6 := K (g' + 6) (by rw [k6]; decide) (by omega) (Or.inr (Or.inr (Or.inr (Or.inr (Or.inl ⟨by omega, by omega⟩)))))
      refine ⟨g', L0, by rw [q7, e1.2.2.2.1]; exact p7, tgk_o tg (eg.2.2.1 5) e6.2.2.2.2.1 (fun i t ht w r hrr hw => ?_), ?_⟩
      · obtain ⟨t1, -, -, -, t5, t6⟩ := (cgx_g hx hgr).2 i t ht
        have kr : zK S r = 6 := by
          rcases hrr with e | e
          · rw [e]; exact t5
          · rw [e]; exact t6
        exact eqc_rl (K r (by rw [kr]; decide) (by omega) (Or.inr (Or.inr (Or.inr (Or.inr (Or.inr (Or.inr ⟨i, t, ht, by omega⟩))))))) kr hw
      · rw [b5']
        exact tgr_rdf tr (by omega) (by omega) (by omega) D
/-- tag's answer on both sides -/
theorem sT_tag {o2 : Int32 × MS} {o : (Nat × Int32) × ZS} (hC : CG S) (hA : TK A) (h5b : 0 ≤ (I 5).toInt ∧ (I 5).toInt ≤ 1) (h : ST I A S) (h2 : f_tag x1 x2 x3 I A = some o2) (ho : d_X11_tag 1 x1 x2 x3 S = some o) : (o.1.1 = 0 ∧ o2.2.1 0 = 0 ∧ o.1.2 = o2.1) ∨ (o.1.1 = 2 ∧ o2.2.1 0 = 1) := by
  obtain ⟨hr, g', L, p7, tg, tr⟩ := h
  have hx := cg_x hC
  obtain ⟨hgr, kg⟩ := sc_7 hr.1.1 p7
  have hf : d_X11_tag_0 1 x1 x2 x3 S = some o := ho
  have hg : f_tag_0 x1 x2 x3 I A = some o2 := h2
  have n5 : (I 5).toNatClampNeg = (I 5).toInt.toNat := cl_n (by omega)
  have z0 : (0 : Int32).toInt = 0 := rfl
  have l1 := tg.1
  have l8 := tg.2.1
  have a18 : (A 18 (I 5).toInt.toNat).toInt = (L.length : Int) := by
    have := tr.1
    rw [Int.toNat_natCast] at this
    exact this
  have r22 : f_tag_22 x1 x2 x3 I A = some o2 → o2.2.1 0 = 1 := fun hh => by
    unfold f_tag_22 f_tag_27 at hh
    obtain ⟨I1, e1, hh⟩ := m_bndE hh
    have j0 : I1 0 = 1 := by rw [e1, upd_self]
    rcases m_ifE hh with ⟨c, hh⟩ | ⟨-, hh⟩
    · rw [j0] at c; exact absurd c (by decide)
    · cases hh
      exact j0
  have c19 : d_X11_tag_19 S = some o → o.1.1 = 2 := fun hh => by
    unfold d_X11_tag_19 at hh
    cases hh
    rfl
  unfold d_X11_tag_0 at hf
  unfold f_tag_0 at hg
  rcases m_ifE hf with ⟨c, hf⟩ | ⟨c, hf⟩
  · rcases m_ifE hg with ⟨-, hg⟩ | ⟨c2, hg⟩
    · exact Or.inr ⟨c19 hf, r22 hg⟩
    · exact absurd c c2
  · rcases m_ifE hg with ⟨c2, hg⟩ | ⟨-, hg⟩
    · exact absurd c2 c
    · replace c := ti_ltN (a := x1) (b := (0 : Int32)) c rfl z0
      obtain ⟨-, hf⟩ := m_chkE hf
      obtain ⟨b1, p1, hf⟩ := m_calE hf
      have eb1 : b1 = g' := by rw [p7] at p1; exact (Option.some.inj p1).symm
      rw [eb1] at hf
      obtain ⟨-, hf⟩ := m_chkE hf
      obtain ⟨-, hg⟩ := m_chkE hg
      obtain ⟨v1, e1, hg⟩ := m_bndE hg
      rw [n5] at e1
      have t1 : v1.toInt = (L.length : Int) := by rw [e1]; exact a18
      rcases m_ifE hf with ⟨d, hf⟩ | ⟨d, hf⟩
      · replace d := ti_leP (a := zI S 5 g') (b := x1) d rfl rfl
        rcases m_ifE hg with ⟨-, hg⟩ | ⟨d2, hg⟩
        · exact Or.inr ⟨c19 hf, r22 hg⟩
        · replace d2 := ti_leN (a := v1) (b := x1) d2 rfl rfl
          omega
      · replace d := ti_leN (a := zI S 5 g') (b := x1) d rfl rfl
        rcases m_ifE hg with ⟨d2, hg⟩ | ⟨-, hg⟩
        · replace d2 := ti_leP (a := v1) (b := x1) d2 rfl rfl
          omega
        · rcases m_ifE hf with ⟨c3, hf⟩ | ⟨c3, hf⟩
          · rcases m_ifE hg with ⟨-, hg⟩ | ⟨c4, hg⟩
            · replace c3 := ti_leP (a := (0 : Int32)) (b := x3) c3 z0 rfl
              obtain ⟨-, hf⟩ := m_chkE hf
              obtain ⟨b2, p2, hf⟩ := m_calE hf
              have eb2 : b2 = g' := by rw [p7] at p2; exact (Option.some.inj p2).symm
              rw [eb2] at hf
              obtain ⟨-, hf⟩ := m_chkE hf
              obtain ⟨⟨r4, S5⟩, h4, hf⟩ := m_cal2E hf
              have hi : x1.toInt.toNat < L.length := by omega
              obtain ⟨t, ht, w1, w2⟩ := tg.2.2 x1.toInt.toNat hi
              obtain ⟨e5, e4⟩ := p_tagC (x1 := x1) (fx_g hx.1 hgr).1.2.2.2.2.1 ⟨by omega, by omega⟩ ht h4
              obtain ⟨-, t2, t3, t4, t5, t6⟩ := (cgx_g hx hgr).2 _ t ht
              dsimp only at hf
              rw [e5, e4] at hf
              have ei : ((x1.toInt.toNat : Nat) : Int) = x1.toInt := by omega
              rw [ei] at w1 w2
              obtain ⟨⟨n1, n2, n3⟩, m1, m2, m3⟩ := tr.2.2 x1.toInt (by omega) (by omega)
              have eg : (((I 5).toInt.toNat : Nat) : Int) = (I 5).toInt := by omega
              rw [eg] at n1 n3 m1 m3
              -- the reference
              unfold f_tag_27 at hg
              obtain ⟨I1, f1, hg⟩ := m_bndE hg
              have j0 : I1 0 = 0 := by rw [f1, upd_self]
              have j5 : I1 5 = I 5 := by rw [f1, upd_ne (by decide)]
              have r132 : ∀ {v : Int32}, f_tag_132 v I1 A = some o2 → o2.2.1 0 = 0 ∧ o2.1 = v := fun hh => by
                unfold f_tag_132 at hh
                cases hh
                exact ⟨j0, rfl⟩
              have c65 : ∀ {v : Int32} {S1 : ZS}, d_X11_tag_65 v S1 = some o → o.1.1 = 0 ∧ o.1.2 = v := fun hh => by
                unfold d_X11_tag_65 at hh
                cases hh
                exact ⟨rfl, rfl⟩
              have rt : ∀ v4 : Int32, f_tag_74 x1 x2 x3 v4 I1 A = some o2 → (x2 = 0 → v4.toInt = ((nmL L x1.toInt).length : Int)) → (x2 ≠ 0 → v4.toInt = ((vlL L x1.toInt).length : Int)) → o2.2.1 0 = 0 ∧ (x2 = 0 → o2.1.toInt = wA (nmL L x1.toInt) x3.toInt) ∧ (x2 ≠ 0 → o2.1.toInt = wA (vlL L x1.toInt) x3.toInt) := fun v4 hh q1 q2 => by
                unfold f_tag_74 at hh
                rcases m_ifE hh with ⟨d1, hh⟩ | ⟨d1, hh⟩
                · replace d1 := ti_ltP (a := x3) (b := v4) d1 rfl rfl
                  rcases m_ifE hh with ⟨d2, hh⟩ | ⟨d2, hh⟩
                  · have q1 := q1 d2
                    obtain ⟨u1, g1, hh⟩ := m_bndE hh
                    obtain ⟨u2, g2, hh⟩ := m_bndE hh
                    obtain ⟨u3, g3, hh⟩ := m_bndE hh
                    obtain ⟨u4, g4, hh⟩ := m_bndE hh
                    obtain ⟨-, hh⟩ := m_chkE hh
                    obtain ⟨u5, g5, hh⟩ := m_bndE hh
                    have s1 : u1.toInt = 96 * (I1 5).toInt := ti_mul g1 (show (96 : Int32).toInt = 96 from rfl) rfl (by rw [j5]; omega) (by rw [j5]; omega)
                    have s2 : u2.toInt = 12 * x1.toInt := ti_mul g2 (show (12 : Int32).toInt = 12 from rfl) rfl (by omega) (by omega)
                    rw [j5] at s1
                    have s3 : u3.toInt = u1.toInt + u2.toInt := ti_add g3 rfl rfl (by omega) (by omega)
                    have s4 : u4.toInt = u3.toInt + x3.toInt := ti_add g4 rfl rfl (by omega) (by omega)
                    have i4 : u4.toNatClampNeg = (96 * (I 5).toInt + 12 * x1.toInt + x3.toInt).toNat := cl_n (by omega)
                    obtain ⟨a1, a2⟩ := r132 hh
                    refine ⟨a1, fun _ => ?_, fun hn => absurd d2 hn⟩
                    rw [a2, g5, i4]
                    exact n3 x3.toInt c3 (by omega)
                  · have q2 := q2 d2
                    obtain ⟨u1, g1, hh⟩ := m_bndE hh
                    obtain ⟨u2, g2, hh⟩ := m_bndE hh
                    obtain ⟨u3, g3, hh⟩ := m_bndE hh
                    obtain ⟨u4, g4, hh⟩ := m_bndE hh
                    obtain ⟨-, hh⟩ := m_chkE hh
                    obtain ⟨u5, g5, hh⟩ := m_bndE hh
                    have s1 : u1.toInt = 768 * (I1 5).toInt := ti_mul g1 (show (768 : Int32).toInt = 768 from rfl) rfl (by rw [j5]; omega) (by rw [j5]; omega)
                    have s2 : u2.toInt = 96 * x1.toInt := ti_mul g2 (show (96 : Int32).toInt = 96 from rfl) rfl (by omega) (by omega)
                    rw [j5] at s1
                    have s3 : u3.toInt = u1.toInt + u2.toInt := ti_add g3 rfl rfl (by omega) (by omega)
                    have s4 : u4.toInt = u3.toInt + x3.toInt := ti_add g4 rfl rfl (by omega) (by omega)
                    have i4 : u4.toNatClampNeg = (768 * (I 5).toInt + 96 * x1.toInt + x3.toInt).toNat := cl_n (by omega)
                    obtain ⟨a1, a2⟩ := r132 hh
                    refine ⟨a1, fun hn => absurd hn d2, fun _ => ?_⟩
                    rw [a2, g5, i4]
                    exact m3 x3.toInt c3 (by omega)
                · replace d1 := ti_ltN (a := x3) (b := v4) d1 rfl rfl
                  obtain ⟨a1, a2⟩ := r132 hh
                  refine ⟨a1, fun hn => ?_, fun hn => ?_⟩
                  · have := q1 hn
                    rw [a2, wA_out (by omega)]; rfl
                  · have := q2 hn
                    rw [a2, wA_out (by omega)]; rfl
              have s8 : ∀ {u v : Int32}, u = (8 : Int32) * I1 5 → v = u + x1 → v.toNatClampNeg = (8 * (I 5).toInt + x1.toInt).toNat := fun {u v} g1 g2 => by
                have s1 : u.toInt = 8 * (I1 5).toInt := ti_mul g1 (show (8 : Int32).toInt = 8 from rfl) rfl (by rw [j5]; omega) (by rw [j5]; omega)
                rw [j5] at s1
                have s2 : v.toInt = u.toInt + x1.toInt := ti_add g2 rfl rfl (by omega) (by omega)
                exact cl_n (by omega)
              rcases m_ifE hg with ⟨-, hg⟩ | ⟨cn, hg⟩
              · rcases m_ifE hf with ⟨d2, hf⟩ | ⟨d2, hf⟩
                · rcases m_ifE hg with ⟨-, hg⟩ | ⟨d3, hg⟩
                  · obtain ⟨u1, g1, hg⟩ := m_bndE hg
                    obtain ⟨u2, g2, hg⟩ := m_bndE hg
                    obtain ⟨-, hg⟩ := m_chkE hg
                    obtain ⟨u3, g3, hg⟩ := m_bndE hg
                    obtain ⟨a1, a2, -⟩ := rt u3 hg (fun _ => by rw [g3, s8 g1 g2]; exact n1) (fun hn => absurd d2 hn)
                    obtain ⟨-, hf⟩ := m_chkE hf
                    obtain ⟨b8, p8, hf⟩ := m_calE hf
                    rw [t3] at p8
                    cases p8
                    obtain ⟨-, hf⟩ := m_chkE hf
                    obtain ⟨o9, h9, hf⟩ := m_calE hf
                    obtain ⟨-, hf⟩ := m_chkE hf
                    obtain ⟨b1', b2'⟩ := c65 hf
                    have at9 := pc_X6_at h9
                    rw [w1.2] at at9
                    exact Or.inl ⟨b1', a1, Int32.toInt_inj.1 (by rw [b2', at9, a2 d2])⟩
                  · exact absurd d2 d3
                · rcases m_ifE hg with ⟨d3, hg⟩ | ⟨-, hg⟩
                  · exact absurd d3 d2
                  · obtain ⟨u1, g1, hg⟩ := m_bndE hg
                    obtain ⟨u2, g2, hg⟩ := m_bndE hg
                    obtain ⟨-, hg⟩ := m_chkE hg
                    obtain ⟨u3, g3, hg⟩ := m_bndE hg
                    obtain ⟨a1, -, a2⟩ := rt u3 hg (fun hn => absurd hn d2) (fun _ => by rw [g3, s8 g1 g2]; exact m1)
                    obtain ⟨-, hf⟩ := m_chkE hf
                    obtain ⟨b8, p8, hf⟩ := m_calE hf
                    rw [t4] at p8
                    cases p8
                    obtain ⟨-, hf⟩ := m_chkE hf
                    obtain ⟨o9, h9, hf⟩ := m_calE hf
                    obtain ⟨-, hf⟩ := m_chkE hf
                    obtain ⟨b1', b2'⟩ := c65 hf
                    have at9 := pc_X6_at h9
                    rw [w2.2] at at9
                    exact Or.inl ⟨b1', a1, Int32.toInt_inj.1 (by rw [b2', at9, a2 d2])⟩
              · exact absurd (show I1 0 ≤ 0 by rw [j0]; decide) cn
            · exact absurd c3 c4
          · rcases m_ifE hg with ⟨c4, hg⟩ | ⟨-, hg⟩
            · exact absurd c4 c3
            · exact Or.inr ⟨c19 hf, r22 hg⟩
end STS
