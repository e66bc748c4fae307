section GRW
variable {S S' : ZS} {g g' p : Nat} {T : TRa} {o : Int32 × ZS} {x1 x2 x3 : Int32}
theorem tc_no (hC : CG S) (hg : g = 35 ∨ g = 99) {a : Nat} (ha : a ≤ 108) (h0 : a ≠ g) (h3 : a ≠ g + 3) (h4 : a ≠ g + 4) (h5 : a ≠ g + 5) : ¬ TCl S g a := by
  rintro (e | e | e | e | ⟨i, n, e1, e2⟩)
  · exact h0 e
  · exact h3 e
  · exact h4 e
  · exact h5 e
  · have := ((gm_of hC hg).1 i n e1).1
    omega
/-- the last steps: the node begins, and is linked -/
theorem gq_102 {SX : ZS} {c : Nat} (hC : CG S) (hg : GG g g') (h : TRc S g T) (hn : tn T < 300) (hX : GXn S SX g c (tn T)) (h1 : x1.toInt = (p : Int)) (hp : p ≤ tn T) (hx3 : (tL T p = [] → x3.toInt = -1) ∧ (∀ hl : tL T p ≠ [], x3.toInt = (((tL T p).getLast hl : Nat) : Int))) (hf : d_X1_grow_102 g x1 x2 x3 SX = some o) : ∃ S2 y a j, f_X4_become c x1 x2 SX = some (y, S2) ∧ o.1 = zI SX 3 g ∧ o.2 = zsI S2 j a (zI SX 3 g) ∧ ((tL T p = [] ∧ j = 2 ∧ a = nk S (g + 3) (g + 5) p) ∨ ∃ hl : tL T p ≠ [], j = 3 ∧ a = nk S (g + 3) (g + 5) ((tL T p).getLast hl)) := by
  obtain ⟨⟨kg, p0, p1, p2, p4, p7⟩, ⟨k1, k2', k3, k4, k5, k6, k7⟩, -⟩ := fx_g hC.2.2.1 (gg_g hg)
  obtain ⟨⟨b1, b2⟩, i3, iO, FX, old, ⟨c1, c2, c3, c4⟩, TX⟩ := hX
  have kgX : zK SX g = 1 := (fr_k FX (by rw [kg]; decide)).trans kg
  have q := (FX g (by rw [kg]; decide)).1.2.2.1 (by rw [kg]; rfl)
  have p1X : zP SX 1 g = some (g + 3) := (q 1).trans p1
  have p2X : zP SX 2 g = some (g + 5) := (q 2).trans p2
  have cnX : cn SX g = tn T + 1 := by unfold cn; rw [i3]; rfl
  have nkX : ∀ j, j ≤ tn T → nk SX (g + 3) (g + 5) j = nk S (g + 3) (g + 5) j := fun j hj => by unfold nk; rw [b2 j (by omega)]
  have nkc : nk SX (g + 3) (g + 5) (tn T + 1) = c := by unfold nk; rw [if_neg (by omega), b1]; rfl
  have mem : ∀ hl : tL T p ≠ [], 1 ≤ (tL T p).getLast hl ∧ (tL T p).getLast hl ≤ tn T := fun hl => by
    have := ((h.2.2.1 p hp).2.2 _).1 (List.getLast_mem hl)
    exact ⟨this.1, this.2.1⟩
  unfold d_X1_grow_102 at hf
  obtain ⟨-, hf⟩ := m_chkE hf
  obtain ⟨-, hf⟩ := m_chkE hf
  obtain ⟨r1, h_r1, hf⟩ := m_calR hf (fun _ h => ro_X1_at h)
  dsimp only at hf
  have q1 : r1 = c := by
    have := (ok_of (t_f_X1_at (x1 := zI SX 3 g) TX kgX) h_r1).2.2
    rw [nd_nk TX kgX p1X p2X (by omega) (by omega), i3] at this
    rw [show ((tn T + 1 : Nat) : Int).toNat = tn T + 1 from rfl, nkc] at this
    exact this
  rw [q1] at hf
  obtain ⟨-, hf⟩ := m_chkE hf
  obtain ⟨-, hf⟩ := m_chkE hf
  obtain ⟨⟨r2, S2c⟩, h_r2, hf⟩ := m_calE hf
  dsimp only at hf
  obtain ⟨T2, F2, -⟩ := p_become TX c2 c3 c4 h_r2
  dsimp only at T2 F2
  have gc : g ≠ c ∧ g ≠ c + 1 := by rcases gg_g hg with e | e <;> omega
  have eg := fr_e F2 (show zK SX g < 18 by rw [kgX]; decide) (by omega)
  have bc : g + 5 ≠ c ∧ g + 5 ≠ c + 1 := by rcases gg_g hg with e | e <;> omega
  have k5X : zK SX (g + 5) = 16 := (fr_k FX (by rw [k5]; decide)).trans k5
  have eb := fr_e F2 (show zK SX (g + 5) < 18 by rw [k5X]; decide) (by omega)
  have kg2 : zK S2c g = 1 := eg.1.trans kgX
  have p12 : zP S2c 1 g = some (g + 3) := (eg.2.2.2.1 1).trans p1X
  have p22 : zP S2c 2 g = some (g + 5) := (eg.2.2.2.1 2).trans p2X
  have i32 : zI S2c 3 g = zI SX 3 g := eg.2.2.1 3
  have cn2 : cn S2c g = tn T + 1 := by unfold cn; rw [i32, i3]; rfl
  have nk2 : ∀ j, j ≤ tn T → nk S2c (g + 3) (g + 5) j = nk S (g + 3) (g + 5) j := fun j hj => by
    rw [← nkX j hj]
    unfold nk
    rw [eb.2.2.2.2.1]
  have atj : ∀ (x : Int32) (m c2 : Nat) (S9 : ZS), x.toInt = (m : Int) → m ≤ tn T → f_X1_at g x S2c = some (c2, S9) → c2 = nk S (g + 3) (g + 5) m := fun x m c2 S9 hx hm hat => by
    have := (ok_of (t_f_X1_at (x1 := x) T2 kg2) hat).2.2
    rw [nd_nk T2 kg2 p12 p22 (by omega) (by omega), hx] at this
    rw [show ((m : Nat) : Int).toNat = m from rfl, nk2 m hm] at this
    exact this
  have z1 : (-1 : Int32).toInt = -1 := rfl
  obtain ⟨-, hf⟩ := m_chkE hf
  rcases m_ifE hf with ⟨c1, hf⟩ | ⟨c1, hf⟩
  · skip
    replace c1 := ti_eqP (a := x3) (b := (-1 : Int32)) c1 rfl (show (-1 : Int32).toInt = -1 from rfl)
    obtain ⟨-, hf⟩ := m_chkE hf
    obtain ⟨r5, h_r5, hf⟩ := m_calR hf (fun _ h => ro_X1_at h)
    dsimp only at hf
    have q5 := atj x1 p _ _ h1 hp h_r5
    have hl : tL T p = [] := Classical.byContradiction (fun e => by
      have := hx3.2 e
      have := mem e
      omega)
    obtain ⟨-, hf⟩ := m_chkE hf
    obtain ⟨-, hf⟩ := m_chkE hf
    obtain ⟨-, hf⟩ := m_chkE hf
    obtain ⟨S6, e_S6, hf⟩ := m_bndE hf
    have i36 : zI S6 3 g = zI SX 3 g := by rw [e_S6, zI_j (by decide)]; exact i32
    unfold d_X1_grow_147 at hf
    obtain ⟨-, hf⟩ := m_chkE hf
    cases hf
    exact ⟨S2c, r2, nk S (g + 3) (g + 5) p, 2, h_r2, i36, by rw [e_S6, q5, i32], Or.inl ⟨hl, rfl, rfl⟩⟩
  · skip
    replace c1 := ti_eqN (a := x3) (b := (-1 : Int32)) c1 rfl (show (-1 : Int32).toInt = -1 from rfl)
    obtain ⟨-, hf⟩ := m_chkE hf
    obtain ⟨r3, h_r3, hf⟩ := m_calR hf (fun _ h => ro_X1_at h)
    dsimp only at hf
    have hl : tL T p ≠ [] := fun e => by have := hx3.1 e; omega
    have q3 := atj x3 _ _ _ (hx3.2 hl) (mem hl).2 h_r3
    obtain ⟨-, hf⟩ := m_chkE hf
    obtain ⟨-, hf⟩ := m_chkE hf
    obtain ⟨-, hf⟩ := m_chkE hf
    obtain ⟨S4, e_S4, hf⟩ := m_bndE hf
    have i34 : zI S4 3 g = zI SX 3 g := by
      rw [e_S4]
      have : g ≠ r3 := fun e => by
        have k4' := (nk_nd hC (gg_g hg) ((tL T p).getLast hl)).1
        rw [← q3, ← e, kg] at k4'
        omega
      rw [zI_b this]; exact i32
    unfold d_X1_grow_147 at hf
    obtain ⟨-, hf⟩ := m_chkE hf
    cases hf
    exact ⟨S2c, r2, nk S (g + 3) (g + 5) ((tL T p).getLast hl), 3, h_r2, i34, by rw [e_S4, q3, i32], Or.inr ⟨hl, rfl, rfl⟩⟩
/-- the class's tree with a node more -/
theorem p_grow (hC : CG S) (hg : GG g g') (hw : WT T) (h : TRc S g T) (h1 : x1.toInt = (p : Int)) (hp : p ≤ tn T) (hf : d_X1_grow g x1 x2 S = some o) : (o.1.toInt = -1 ∧ o.2 = S ∧ 300 ≤ tn T) ∨ (tn T < 300 ∧ o.1.toInt = ((tn T + 1 : Nat) : Int) ∧ CG o.2 ∧ TRc o.2 g (grT T p x2.toInt) ∧ FR (TCl S g) S o.2 ∧ ∀ j, j ≠ 3 → zI o.2 j g = zI S j g) := by
  have hgr := gg_g hg
  obtain ⟨⟨kg, p0, p1, p2, p4, p7⟩, ⟨k1, k2', k3, k4, k5, k6, k7⟩, -⟩ := fx_g hC.2.2.1 hgr
  have hc := cn_le hC.1 kg
  rw [h.1] at hc
  have tot := ok_of (t_d_X1_grow (SZ := S) (x1 := x1) (x2 := x2) hC.1 (rp_0 S) kg hC.2.1 (by rcases hgr with e | e <;> rw [e] <;> decide) (by rw [h.1]; omega)) hf
  have T' : ZT o.2 := tot.1
  have Z' : TZ o.2 := tot.2.1.2.1 hC.2.1
  have hf : d_X1_grow_0 g x1 x2 S = some o := hf
  have ht := h.2.2.1 p hp
  have hl := chn_len h.2.2.1 hp
  have z0 : (0 : Int32).toInt = 0 := rfl
  have main : ∀ y : Int32, tn T < 300 → (tL T p = [] → y.toInt = -1) → (∀ hl : tL T p ≠ [], y.toInt = (((tL T p).getLast hl : Nat) : Int)) → d_X1_grow_64 g x1 x2 y S = some o → o.1.toInt = ((tn T + 1 : Nat) : Int) ∧ CG o.2 ∧ TRc o.2 g (grT T p x2.toInt) ∧ FR (TCl S g) S o.2 ∧ ∀ j, j ≠ 3 → zI o.2 j g = zI S j g := by
    intro y hlt y1 y2 hf
    obtain ⟨SX, c, hX, hf⟩ := gq_64 hC hgr h hlt hf
    obtain ⟨S2, yy, a, j, hb, ho1, ho2, hlk⟩ := gq_102 hC hg h hlt hX h1 hp ⟨y1, y2⟩ hf
    obtain ⟨⟨b1, b2⟩, i3, iO, FX, old, ⟨c1, c2, c3, c4⟩, TX⟩ := hX
    obtain ⟨T2, F2, ⟨w0, w1, w2, w3⟩, wm, wr⟩ := p_become TX c2 c3 c4 hb
    dsimp only at T2 F2 w0 w1 w2 w3 wm wr
    have FL : FR (fun z => z = a) S2 o.2 := fr_I ho2
    have hm : ∀ hl : tL T p ≠ [], 1 ≤ (tL T p).getLast hl ∧ (tL T p).getLast hl ≤ tn T := fun hl => by
      have := (ht.2.2 _).1 (List.getLast_mem hl)
      exact ⟨this.1, this.2.1⟩
    -- the linked node
    obtain ⟨m, hmn, ha⟩ : ∃ m, m ≤ tn T ∧ a = nk S (g + 3) (g + 5) m := by
      rcases hlk with ⟨-, -, e⟩ | ⟨hl, -, e⟩
      · exact ⟨p, hp, e⟩
      · exact ⟨_, (hm hl).2, e⟩
    have nc : ∀ i, i ≤ tn T → nk S (g + 3) (g + 5) i ≠ c := fun i hi e => by
      rcases old with e2 | e2
      · rcases nk_cell (r := g + 3) h.2.1.1 hi with ⟨e3, e4⟩ | ⟨e3, e4⟩
        · rw [e4] at e; rcases hgr with g1 | g1 <;> omega
        · rw [e] at e4
          have := ((txs_g hC hg).2.2.2.2.2.1 _ c e2).2.2.2 i e4
          omega
      · have := (nk_nd hC hgr i).1
        rw [e] at this
        omega
    have kX : ∀ i, zK SX (nk S (g + 3) (g + 5) i) = 4 ∧ zK SX (nk S (g + 3) (g + 5) i + 1) = 6 := fun i => by
      obtain ⟨d1, -, d3, -⟩ := nk_nd hC hgr i
      exact ⟨(fr_k FX (by rw [d1]; decide)).trans d1, (fr_k FX (by rw [d3]; decide)).trans d3⟩
    have nc1 : ∀ i, nk S (g + 3) (g + 5) i ≠ c + 1 := fun i e => by
      have := (kX i).1
      rw [e, c4] at this
      omega
    have rc1 : ∀ i, nk S (g + 3) (g + 5) i + 1 ≠ c := fun i e => by
      have := (kX i).2
      rw [e, c2] at this
      omega
    -- cells of old nodes and rows up to S2
    have eX : ∀ z, zK S z < 18 → z ≠ g → z ≠ g + 5 → EQc S SX z := fun z hz z1 z2 => fr_e FX hz (by omega)
    have e2 : ∀ z, zK S z < 18 → z ≠ g → z ≠ g + 5 → z ≠ c → z ≠ c + 1 → EQc S S2 z := fun z hz z1 z2 z3 z4 => eqc_t (eX z hz z1 z2) (fr_e F2 (by rw [(eX z hz z1 z2).1]; exact hz) (by omega))
    have knd : ∀ i, zK S (nk S (g + 3) (g + 5) i) = 4 ∧ zK S (nk S (g + 3) (g + 5) i + 1) = 6 := fun i => ⟨(nk_nd hC hgr i).1, (nk_nd hC hgr i).2.2.1⟩
    have ng : ∀ i, nk S (g + 3) (g + 5) i ≠ g ∧ nk S (g + 3) (g + 5) i ≠ g + 5 ∧ nk S (g + 3) (g + 5) i + 1 ≠ g ∧ nk S (g + 3) (g + 5) i + 1 ≠ g + 5 := fun i => by
      obtain ⟨d1, d2⟩ := knd i
      exact ⟨fun e => by rw [e, kg] at d1; omega, fun e => by rw [e, k5] at d1; omega, fun e => by rw [e, kg] at d2; omega, fun e => by rw [e, k5] at d2; omega⟩
    have en : ∀ i, i ≤ tn T → EQc S S2 (nk S (g + 3) (g + 5) i) := fun i hi => e2 _ (by rw [(knd i).1]; decide) (ng i).1 (ng i).2.1 (nc i hi) (nc1 i)
    have er : ∀ i, i ≤ tn T → EQc S S2 (nk S (g + 3) (g + 5) i + 1) := fun i hi => e2 _ (by rw [(knd i).2]; decide) (ng i).2.2.1 (ng i).2.2.2 (rc1 i) (fun e => nc i hi (by omega))
    -- arrays of the game
    have bc : g + 5 ≠ c ∧ g + 5 ≠ c + 1 := by rcases hgr with e | e <;> omega
    have k5X : zK SX (g + 5) = 16 := (fr_k FX (by rw [k5]; decide)).trans k5
    have eb2 : zB S2 (g + 5) = zB SX (g + 5) := (fr_e F2 (by rw [k5X]; decide) (by omega)).2.2.2.2.1
    have eb' : zB o.2 (g + 5) = zB SX (g + 5) := by rw [ho2]; exact eb2
    have nk' : ∀ i, i ≤ tn T → nk o.2 (g + 3) (g + 5) i = nk S (g + 3) (g + 5) i := fun i hi => by unfold nk; rw [eb', b2 i (by omega)]
    have nkc : nk o.2 (g + 3) (g + 5) (tn T + 1) = c := by unfold nk; rw [if_neg (by omega), eb', b1]; rfl
    have inj := fun i k hi hk e => nk_ij (i := i) (j := k) hC hg h hi hk e
    have gc : g ≠ c ∧ g ≠ c + 1 := by rcases hgr with e | e <;> omega
    have kgX : zK SX g = 1 := (fr_k FX (by rw [kg]; decide)).trans kg
    have eg2 : ∀ i, zI S2 i g = zI SX i g := fun i => (fr_e F2 (show zK SX g < 18 by rw [kgX]; decide) (by omega)).2.2.1 i
    have ag : g ≠ a := fun e => by rw [ha] at e; exact (ng m).1 e.symm
    have eg' : ∀ i, zI o.2 i g = zI SX i g := fun i => by rw [ho2, zI_b ag]; exact eg2 i
    have cn' : cn o.2 g = tn T + 1 := by unfold cn; rw [eg', i3]; rfl
    have vX : (zI SX 3 g).toInt = ((tn T + 1 : Nat) : Int) := i3
    have z1 : (-1 : Int32).toInt = -1 := rfl
    have ca : c ≠ a := fun e => nc m hmn (by rw [← ha]; exact e.symm)
    -- ints of nodes in the end
    have ij : ∀ i k, i ≤ tn T → (k ≠ j ∨ nk S (g + 3) (g + 5) i ≠ a) → zI o.2 k (nk S (g + 3) (g + 5) i) = zI S k (nk S (g + 3) (g + 5) i) := fun i k hi hk => by
      rw [ho2, ← (en i hi).2.2.1 k]
      rcases hk with hk | hk
      · exact zI_j hk
      · exact zI_b hk
    have ic : ∀ k, zI o.2 k c = zI S2 k c := fun k => by rw [ho2]; exact zI_b ca
    have ia : zI o.2 j a = zI SX 3 g := by rw [ho2]; exact zI_self _ _ _ _
    have jj : j = 2 ∨ j = 3 := by rcases hlk with ⟨-, e, -⟩ | ⟨-, e, -⟩ <;> omega
    have P0 : ∀ i, i ≤ tn T → nF o.2 0 (g + 3) (g + 5) i = nF S 0 (g + 3) (g + 5) i := fun i hi => by unfold nF; rw [nk' i hi, ij i 0 hi (Or.inl (by omega))]
    have P1 : nF o.2 0 (g + 3) (g + 5) (tn T + 1) = (p : Int) := by unfold nF; rw [nkc, ic, w0]; exact h1
    have hbt : TTb (tn T) (nF S 0 (g + 3) (g + 5)) (fun _ => 0) := fun k q1 q2 => by
      rw [(h.2.2.2 k q2).1.1]
      exact ⟨(hw.2.1 k q1 q2).1, Int.le_refl _⟩
    have hTTl : TTl (tn T + 1) (nF o.2 0 (g + 3) (g + 5)) (nF o.2 2 (g + 3) (g + 5)) (nF o.2 3 (g + 3) (g + 5)) (fun q => if q = p then tL T p ++ [tn T + 1] else if q = tn T + 1 then [] else tL T q) := by
      rcases hlk with ⟨l0, ej, ea⟩ | ⟨l0, ej, ea⟩ <;> subst ej
      · refine TTl_app hbt h.2.2.1 hp P0 P1 (fun i hi hne => ?_) (fun e => absurd l0 e) (fun _ => ?_) ?_ (fun i hi _ => ?_) (fun e => absurd l0 e) ?_
        · unfold nF
          rw [nk' i hi, ij i 2 hi (Or.inr (fun e => hne (inj i p hi hp (e.trans ea))))]
        · unfold nF
          rw [nk' p hp, ← ea, ia]; exact vX
        · unfold nF
          rw [nkc, ic, w2]; rfl
        · unfold nF
          rw [nk' i hi, ij i 3 hi (Or.inl (by decide))]
        · unfold nF
          rw [nkc, ic, w3]; rfl
      · have hml := hm l0
        refine TTl_app hbt h.2.2.1 hp P0 P1 (fun i hi hne => ?_) (fun _ => ?_) (fun e => absurd e l0) ?_ (fun i hi hne => ?_) (fun _ => ?_) ?_
        · unfold nF
          rw [nk' i hi, ij i 2 hi (Or.inl (by decide))]
        · unfold nF
          rw [nk' p hp, ij p 2 hp (Or.inl (by decide))]
        · unfold nF
          rw [nkc, ic, w2]; rfl
        · unfold nF
          rw [nk' i hi, ij i 3 hi (Or.inr (fun e => hne l0 (inj i _ hi hml.2 (e.trans ea))))]
        · unfold nF
          rw [nk' _ hml.2, ← ea, ia]; exact vX
        · unfold nF
          rw [nkc, ic, w3]; rfl
    -- frames
    have V : ∀ z, (TCl S g z ∨ 18 ≤ zK S z) → zK S z < 18 → TCl S g z := fun z hz hl => hz.elim id (fun e => by omega)
    have cV : (TCl S g c ∨ 18 ≤ zK S c) ∧ (TCl S g (c + 1) ∨ 18 ≤ zK S (c + 1)) := by
      rcases old with e | e
      · exact ⟨Or.inl (Or.inr (Or.inr (Or.inr (Or.inr ⟨_, c, e, Or.inl rfl⟩)))), Or.inl (Or.inr (Or.inr (Or.inr (Or.inr ⟨_, c, e, Or.inr rfl⟩))))⟩
      · exact ⟨Or.inr e.1, Or.inr e.2⟩
    have FR' : FR (TCl S g) S o.2 := by
      have f1 : FR (fun z => TCl S g z ∨ 18 ≤ zK S z) S SX := fr_m FX (fun z _ e => Or.inl (e.elim (fun e => Or.inl e) (fun e => Or.inr (Or.inr (Or.inr (Or.inl e))))))
      have f2 : FR (fun z => TCl S g z ∨ 18 ≤ zK S z) SX S2 := fr_m F2 (fun z _ e => e.elim (fun e => by rw [e]; exact cV.1) (fun e => by rw [e]; exact cV.2))
      have f3 : FR (fun z => TCl S g z ∨ 18 ≤ zK S z) S2 o.2 := fr_m FL (fun z _ e => Or.inl (by rw [e, ha]; exact (tc_nk m).1))
      exact fr_m (fr_t f1 (fr_t f2 f3)) (fun z hz e => V z e hz)
    have hx := hC.2.2.1
    have hxy : (g = 35 ∧ g' = 99) ∨ (g = 99 ∧ g' = 35) := hg
    have eB : ∀ z, 1 ≤ z → z ≤ 108 → z ≠ g → z ≠ g + 3 → z ≠ g + 4 → z ≠ g + 5 → zB o.2 z = zB S z := fun z z1 z2 z3 z4 z5 z6 => (fr_e FR' (fx_l hx z1 z2) (tc_no hC hgr z2 z3 z4 z5 z6)).2.2.2.2.1
    have kc' : zK o.2 c = 4 ∧ zP o.2 6 c = some (c + 1) ∧ zK o.2 (c + 1) = 6 := by
      have q2 := (F2 c (by rw [c2]; decide)).1
      have q3 := fr_k F2 (a := c + 1) (by rw [c4]; decide)
      refine ⟨?_, ?_, ?_⟩
      · rw [ho2]; exact q2.1.trans c2
      · rw [ho2]; exact (q2.2.2.1 (by rw [c2]; rfl) 6).trans c3
      · rw [ho2]; exact q3.trans c4
    have G := gm_of hC hgr
    have Gg : GM o.2 g := by
      refine ⟨fun i z hz => ?_, fun i z hz => ?_⟩
      · rw [eb'] at hz
        by_cases e : i = tn T + 1
        · rw [e, b1] at hz
          cases hz
          exact ⟨c1, kc'⟩
        · rw [b2 i e] at hz
          obtain ⟨d1, d2, d3, d4⟩ := G.1 i z hz
          exact ⟨d1, (fr_k FR' (by rw [d2]; decide)).trans d2, ((FR' z (by rw [d2]; decide)).1.2.2.1 (by rw [d2]; rfl) 6).trans d3, (fr_k FR' (by rw [d4]; decide)).trans d4⟩
      · rw [eB (g + 6) (by omega) (by omega) (by omega) (by omega) (by omega) (by omega)] at hz
        obtain ⟨d1, d2, d3, d4, d5, d6⟩ := G.2 i z hz
        have q := (FR' z (by rw [d2]; decide)).1.2.2.1 (by rw [d2]; rfl)
        exact ⟨d1, (fr_k FR' (by rw [d2]; decide)).trans d2, (q 0).trans d3, (q 1).trans d4, (fr_k FR' (by rw [d5]; decide)).trans d5, (fr_k FR' (by rw [d6]; decide)).trans d6⟩
    have Gg' : GM o.2 g' := gm_fr hx (gg_g (gg_s hg)) (gm_of hC (gg_g (gg_s hg))) FR' (eB (g' + 5) (by omega) (by omega) (by omega) (by omega) (by omega) (by omega)) (eB (g' + 6) (by omega) (by omega) (by omega) (by omega) (by omega) (by omega))
    have TD : TDX o.2 := fun q q' hq => by
      have hq2 : (q = 35 ∧ q' = 99) ∨ (q = 99 ∧ q' = 35) := hq
      rw [eB (q + 6) (by omega) (by omega) (by omega) (by omega) (by omega) (by omega), eB (q' + 6) (by omega) (by omega) (by omega) (by omega) (by omega) (by omega)]
      exact hC.2.2.2.2.2 q q' hq
    have CG' : CG o.2 := by
      refine ⟨T', Z', fix_fr hx FR', ?_, ?_, TD⟩
      · rcases hxy with ⟨e, e2⟩ | ⟨e, e2⟩
        · rw [e] at Gg; exact Gg
        · rw [e2] at Gg'; exact Gg'
      · rcases hxy with ⟨e, e2⟩ | ⟨e, e2⟩
        · rw [e2] at Gg'; exact Gg'
        · rw [e] at Gg; exact Gg
    refine ⟨by rw [ho1]; exact i3, CG', ⟨cn', ⟨fun k q1 q2 => ?_, ?_⟩, hTTl, fun k hk => ?_⟩, FR', fun k hk => by rw [eg']; exact iO k hk⟩
    · have q3 : k ≤ tn T + 1 := q2
      rw [eb']
      by_cases e : k = tn T + 1
      · rw [e, b1]; exact fun e => by cases e
      · rw [b2 k e]; exact h.2.1.1 k q1 (by omega)
    · have n3 : zI o.2 3 (nk S (g + 3) (g + 5) 0) = zI S 3 (nk S (g + 3) (g + 5) 0) := by
        rcases hlk with ⟨-, ej, -⟩ | ⟨l0, -, ea⟩
        · exact ij 0 3 (Nat.zero_le _) (Or.inl (by rw [ej]; decide))
        · refine ij 0 3 (Nat.zero_le _) (Or.inr (fun e => ?_))
          have h0 := inj 0 _ (Nat.zero_le _) (hm l0).2 (e.trans ea)
          have h1' := (hm l0).1
          rw [← h0] at h1'
          exact absurd h1' (by decide)
      unfold nF
      rw [nk' 0 (Nat.zero_le _), n3]
      exact h.2.1.2
    · have hk' : k ≤ tn T + 1 := hk
      show (nF o.2 0 (g + 3) (g + 5) k = (if k = tn T + 1 then (p : Int) else tP T k) ∧ nF o.2 1 (g + 3) (g + 5) k = (if k = tn T + 1 then x2.toInt else tM T k)) ∧ NMk o.2 (nk o.2 (g + 3) (g + 5) k) (if k = tn T + 1 then [] else tK T k) ∧ RWL o.2 (nk o.2 (g + 3) (g + 5) k + 1) (if k = tn T + 1 then [] else tR T k)
      by_cases e : k = tn T + 1
      · rw [if_pos e, if_pos e, if_pos e, if_pos e, e, P1, nkc]
        refine ⟨⟨rfl, ?_⟩, ⟨?_, ?_⟩, ?_⟩
        · unfold nF
          rw [nkc, ic, w1]
        · rw [ic]; exact wm.1
        · rw [ic]; exact wm.2
        · have k62 : zK S2 (c + 1) = 6 := (fr_k F2 (by rw [c4]; decide)).trans c4
          exact eqc_rl (fr_e FL (by rw [k62]; decide) (fun e => by rw [ha] at e; exact nc1 m e.symm)) k62 wr
      · rw [if_neg e, if_neg e, if_neg e, if_neg e, P0 k (by omega), nk' k (by omega)]
        have hk2 : k ≤ tn T := by omega
        obtain ⟨⟨a1, a2⟩, a3, a4⟩ := h.2.2.2 k hk2
        refine ⟨⟨a1, ?_⟩, ⟨?_, ?_⟩, ?_⟩
        · unfold nF
          rw [nk' k hk2, ij k 1 hk2 (Or.inl (by omega))]; exact a2
        · rw [ij k 4 hk2 (Or.inl (by omega))]; exact a3.1
        · rw [ij k 5 hk2 (Or.inl (by omega))]; exact a3.2
        · have k62 := (er k hk2).1.trans (knd k).2
          exact eqc_rl (fr_e FL (by rw [k62]; decide) (fun e => by rw [ha] at e; exact nk_r1 hC hgr m k e.symm)) k62 (eqc_rl (er k hk2) (knd k).2 a4)
  unfold d_X1_grow_0 at hf
  obtain ⟨-, hf⟩ := m_chkE hf
  rcases m_ifE hf with ⟨c1, hf⟩ | ⟨c1, hf⟩
  · skip
    replace c1 := ti_ltP (a := (zI S 3 g)) (b := (300 : Int32)) c1 rfl (show (300 : Int32).toInt = 300 from rfl)
    obtain ⟨-, hf⟩ := m_chkE hf
    obtain ⟨r1, h_r1, hf⟩ := m_calR hf (fun _ h => ro_X1_at h)
    dsimp only at hf
    obtain ⟨-, q1⟩ := p_at hC hgr h (by omega) (by omega) h_r1
    rw [show x1.toInt.toNat = p by omega] at q1
    obtain ⟨-, hf⟩ := m_chkE hf
    obtain ⟨-, hf⟩ := m_chkE hf
    obtain ⟨y, y1, y2, y3⟩ := gq_24 hC hgr h mFuel (tL T p) (zI S 2 r1) 0 (by rw [q1]; exact ht.1) (fun k hk => by
      have := (ht.2.2 k).1 hk
      exact ⟨this.1, this.2.1⟩) (by decide) (by omega) hf
    have lt : tn T < 300 := by omega
    exact Or.inr ⟨lt, main y lt y1 y2 y3⟩
  · skip
    replace c1 := ti_ltN (a := (zI S 3 g)) (b := (300 : Int32)) c1 rfl (show (300 : Int32).toInt = 300 from rfl)
    cases hf
    try dsimp only
    exact Or.inl ⟨rfl, rfl, by omega⟩
end GRW
