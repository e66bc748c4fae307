section
noncomputable def WL : List (Nat × Nat) := [(0, 1), (0, 2), (0, 3), (0, 4), (0, 5), (0, 6), (6, 1)]
noncomputable def VL : List (Nat × Nat) := [(6, 0)]
/-- a state within a written line -/
noncomputable def SL (S0 S : ZS) : Prop := ZT S ∧ RP S0 S ∧ FrZ WL VL [] S0 S
theorem sl_0 {S : ZS} (hT : ZT S) : SL S S := ⟨hT, rp_0 S, frz_0⟩
theorem sl_d {S0 S S' : ZS} {W V : List (Nat × Nat)} (h : SL S0 S) (hT : ZT S') (hR : RP S S') (f : FrZ W V [] S S') (hW : ∀ x ∈ W, x ∈ WL) (hV : ∀ x ∈ V, x ∈ VL) : SL S0 S' := ⟨hT, rp_t h.2.1 hR, frz_t h.2.2 f hW hV (fun _ h => h)⟩
theorem sl_f {S0 S S' : ZS} {W V : List (Nat × Nat)} (h : SL S0 S) (hT : ZT S') (hA : A7 S S') (q : EqT S S') (f : FrZ W V [] S S') (hW : ∀ x ∈ W, x ∈ WL) (hV : ∀ x ∈ V, x ∈ VL) (hd : (6, 0) ∉ V ∧ tdis W V []) : SL S0 S' := sl_d h hT (rp_f (rp_0 S) h.1 q f hd hA) f hW hV
theorem goes_v {S S' : ZS} {g : Nat} {x1 y : Int32} (hT : ZT S) (hk : zK S g = 1) (hf : f_X1_goesOn g x1 S = some (y, S')) : (zI S 2 (nd S g (zI S 0 (nd S g x1))) = x1 ∧ y = 1) ∨ (zI S 2 (nd S g (zI S 0 (nd S g x1))) ≠ x1 ∧ y = 0) := by
  have hf : f_X1_goesOn_0 g x1 S = some (y, S') := hf
  unfold f_X1_goesOn_0 at hf
  obtain ⟨-, hf⟩ := m_chkE hf
  obtain ⟨⟨c, Sx⟩, h1, hf⟩ := m_calE hf
  obtain ⟨s1, k1, a1⟩ := ok_of (t_f_X1_at hT hk) h1
  dsimp only at s1 k1 a1 hf
  rw [s1] at hf
  obtain ⟨-, hf⟩ := m_chkE hf
  obtain ⟨-, hf⟩ := m_chkE hf
  obtain ⟨⟨d, Sy⟩, h2, hf⟩ := m_calE hf
  obtain ⟨s2, k2, a2⟩ := ok_of (t_f_X1_at hT hk) h2
  dsimp only at s2 k2 a2 hf
  rw [s2] at hf
  obtain ⟨-, hf⟩ := m_chkE hf
  rw [← a1, ← a2]
  rcases m_ifE hf with ⟨e, hf⟩ | ⟨e, hf⟩
  · left
    unfold f_X1_goesOn_24 at hf
    obtain ⟨-, hf⟩ := m_chkE hf
    cases hf
    exact ⟨e, rfl⟩
  · right
    unfold f_X1_goesOn_24 at hf
    obtain ⟨-, hf⟩ := m_chkE hf
    cases hf
    exact ⟨e, rfl⟩
section PL
variable {S0 : ZS} {g r b x0 x4 N : Nat} {L : Nat → List Nat}
/-- what a game and its writer are, before the line -/
noncomputable def PLh (S0 : ZS) (g r b x0 x4 N : Nat) : Prop := ZT S0 ∧ zK S0 g = 1 ∧ zP S0 1 g = some r ∧ zP S0 2 g = some b ∧ zK S0 r = 4 ∧ zK S0 b = 16 ∧ cn S0 g = N ∧ zK S0 x0 = 3 ∧ zK S0 x4 = 6 ∧ rL x4 = 90000
theorem pl_k {S : ZS} {a k : Nat} (hS : SL S0 S) (hT : ZT S0) (ha : zK S0 a = k) (hk : k < 18) : zK S a = k := ((hS.2.2 hT.2.2.2.2.1).2.2 a (lt18 ha hk)).1.trans ha
theorem pl_at {S : ZS} (hh : PLh S0 g r b x0 x4 N) (hS : SL S0 S) : (zK S g = 1 ∧ zP S 1 g = some r ∧ zP S 2 g = some b ∧ cn S g = N) ∧ (∀ k, nk S r b k = nk S0 r b k) ∧ (∀ k j, j ≤ 3 → zI S j (nk S0 r b k) = zI S0 j (nk S0 r b k)) ∧ ∀ k, zK S0 (nk S0 r b k) = 4 := by
  obtain ⟨hT, hk, hr, hb, kr, kb, hN, -, -, -⟩ := hh
  have ff := (hS.2.2 hT.2.2.2.2.1).2.2
  have fg := ff g (lt18 hk (by decide))
  rw [hk] at fg
  have eB : zB S b = zB S0 b := (ff b (lt18 kb (by decide))).2.2.2.2 (fun h => by cases h)
  have kn : ∀ k, zK S0 (nk S0 r b k) = 4 := fun k => nk_kind hT kr kb
  refine ⟨⟨fg.1, (fg.2.2.2.1 1 (by decide)).trans hr, (fg.2.2.2.1 2 (by decide)).trans hb, ?_⟩, fun k => ?_, fun k j hj => ?_, kn⟩
  · rw [← hN]; unfold cn; rw [fg.2.2.1 3 (by decide)]
  · unfold nk; rw [eB]
  · have := (ff _ (lt18 (kn k) (by decide))).2.2.1 j
    rw [kn k] at this
    refine this ?_
    unfold WL
    simp
theorem pl_nd {S : ZS} {x : Int32} {k : Nat} (hh : PLh S0 g r b x0 x4 N) (hS : SL S0 S) (hx : x.toInt = (k : Int)) (hk : k ≤ N) : nd S g x = nk S0 r b k := by
  obtain ⟨⟨a1, a2, a3, a4⟩, a5, -, -⟩ := pl_at hh hS
  rw [nd_nk hS.1 a1 a2 a3 (by omega) (by rw [a4]; omega), hx, a5]
  rfl
theorem pl_put {S : ZS} {v : Int32} {Q : Int32 × ZS → Prop} {k : Int32 → ZS → Option (Int32 × ZS)} {c : Int} (hh : PLh S0 g r b x0 x4 N) (hS : SL S0 S) (hv : (0 : Int) ≤ v.toInt ∧ v.toInt ≤ (65535 : Int)) (h3 : (zI S 1 x4).toInt ≤ c) (hc : c < 90000) (hk : ∀ y S', SL S0 S' → (zI S' 1 x4).toInt ≤ c + 1 → Ok (k y S') Q) : Ok (m_cal2 (d_X6_put x4 v S) k) Q := by
  have k4 : zK S x4 = 6 := pl_k hS hh.1 hh.2.2.2.2.2.2.2.2.1 (by decide)
  have ol := hh.2.2.2.2.2.2.2.2.2
  obtain ⟨⟨y, S'⟩, h, T', R', p, -⟩ := t_d_X6_put (SZ := S) (x0 := x4) (x1 := v) hS.1 (rp_0 S) k4 hv (by omega) (rc_ol ol)
  refine ok_cal2R h (hk y S' (sl_d hS T' R' (fz_X6_put h) (by decide) (by decide)) ?_)
  have p' : (zI S' 1 x4).toInt = (zI S 1 x4).toInt + 1 := p
  omega
theorem pl_gap {S : ZS} {Q : Int32 × ZS → Prop} {k : Int32 → ZS → Option (Int32 × ZS)} {c : Int} (hh : PLh S0 g r b x0 x4 N) (hS : SL S0 S) (h3 : (zI S 1 x4).toInt ≤ c) (hc : c < 90000) (hk : ∀ y S', SL S0 S' → (zI S' 1 x4).toInt ≤ c + 1 → Ok (k y S') Q) : Ok (m_cal2 (d_X3_putGap x4 S) k) Q := by
  have k4 : zK S x4 = 6 := pl_k hS hh.1 hh.2.2.2.2.2.2.2.2.1 (by decide)
  have ol := hh.2.2.2.2.2.2.2.2.2
  obtain ⟨⟨y, S'⟩, h, T', R', p⟩ := t_d_X3_putGap (SZ := S) (x0 := x4) hS.1 (rp_0 S) k4 rfl ol (by omega)
  refine ok_cal2R h (hk y S' (sl_d hS T' R' (fz_X3_putGap h) (by decide) (by decide)) ?_)
  have p' : (zI S' 1 x4).toInt ≤ (zI S 1 x4).toInt + 1 := p
  omega
theorem pl_24s {rec : Nat → Nat → Int32 → Int32 → Nat → ZS → Option (Int32 × ZS)} {self24 : Nat → Nat → Int32 → Nat → Nat → Int32 → Int32 → Int32 → ZS → Option (Int32 × ZS)} {x5 : Nat} {x3 x6 x7 x8 : Int32} {S : ZS} {Q : Int32 × ZS → Prop} {k : Nat} {c : Int} (hh : PLh S0 g r b x0 x4 N) (hx : x7.toInt = (k : Int)) (h1 : 1 ≤ k) (h2 : k ≤ N) (k5 : zK S0 x5 = 0) (hS : SL S0 S) (h3 : (zI S 1 x4).toInt ≤ c) (hc : c ≤ 89500) (hret : Q (0, S))
    (cont : ∀ (t0 : Int32) (S' : ZS), SL S0 S' → (zI S' 1 x4).toInt ≤ c + 250 → Ok (d_X3_putLine_74 rec self24 x0 g x3 x4 x5 x7 x8 (nk S0 r b k) t0 S') Q) : Ok (d_X3_putLine_24s rec self24 x0 g x3 x4 x5 x6 x7 x8 S) Q := by
  have zm : (-1 : Int32).toInt = -1 := rfl
  obtain ⟨⟨a1, a2, a3, a4⟩, a5, a6, a7⟩ := pl_at hh hS
  have ol := hh.2.2.2.2.2.2.2.2.2
  have kx4 : zK S x4 = 6 := pl_k hS hh.1 hh.2.2.2.2.2.2.2.2.1 (by decide)
  have kx0 : zK S x0 = 3 := pl_k hS hh.1 hh.2.2.2.2.2.2.2.1 (by decide)
  have kx5 : zK S x5 = 0 := pl_k hS hh.1 k5 (by decide)
  unfold d_X3_putLine_24s
  refine ok_if (fun _ => ?_) (fun _ => ok_ifF (fun h => by rw [h] at hx; omega) ?_)
  · unfold d_X3_putLine_206
    exact ok_ret hret
  · obtain ⟨n, hn, kn, en⟩ := roz (t_f_X1_at (x1 := x7) hS.1 a1)
    dsimp only at kn en
    rw [pl_nd hh hS hx h2] at en
    obtain ⟨⟨y, S4⟩, h4, T4, R4, p4⟩ := t_d_X3_putMove (SZ := S) (x0 := x0) (x1 := x5) (x2 := n) (x3 := x6) (x4 := x4) hS.1 (rp_0 S) kx0 kx5 kn kx4 rfl ol (by omega)
    replace T4 : ZT S4 := T4
    replace p4 : (zI S4 1 x4).toInt ≤ (zI S 1 x4).toInt + 250 := p4
    have hS4 : SL S0 S4 := sl_d hS T4 R4 (fz_X3_putMove h4) (by decide) (by decide)
    have kn4 : zK S4 n = 4 := by rw [en]; exact pl_k hS4 hh.1 (a7 k) (by decide)
    obtain ⟨b7, p7, k7, -⟩ := T_4_6 T4 kn4
    obtain ⟨z, hz, pz⟩ := roz (t_f_X6_size T4 k7)
    refine ok_chk a1 (ok_calR hn (ok_chk ⟨rfl, rfl⟩ (ok_chk kx0 (ok_cal2R h4 (ok_chk kn4 (ok_calR p7 (ok_chk k7 (ok_calR hz (ok_chk ⟨rfl, rfl⟩ (ok_if (fun _ => ?_) (fun _ => ?_)))))))))))
    · rw [en]; exact cont _ S4 hS4 (by omega)
    · rw [en]; exact cont _ S4 hS4 (by omega)
theorem pl_99 {len : Nat → Nat} {rec : Nat → Nat → Int32 → Int32 → Nat → ZS → Option (Int32 × ZS)} {self24 : Nat → Nat → Int32 → Nat → Nat → Int32 → Int32 → Int32 → ZS → Option (Int32 × ZS)} {x5 : Nat} {x3 x8 : Int32} {Q : Int32 × ZS → Prop} {k : Nat} (hh : PLh S0 g r b x0 x4 N) (hN : N ≤ 300) (hk : k ≤ N) (k5 : zK S0 x5 = 0) (h33 : 0 ≤ x3.toInt ∧ x3.toInt ≤ 6) : ∀ (l : List Nat) (n : Nat) (x6 x10 x11 : Int32) (S : ZS) (c : Int), chn (nF S0 3 r b) l x10.toInt → (∀ o ∈ l, 1 ≤ o ∧ o ≤ N) → l.length < n → SL S0 S → (zI S 1 x4).toInt ≤ c → c + sm len l ≤ 89400 →
    (∀ o ∈ l, x3.toInt < 6 → ∀ (x v : Int32) (S' : ZS) (c' : Int), x.toInt = (o : Int) → v.toInt = x3.toInt + 1 → SL S0 S' → (zI S' 1 x4).toInt ≤ c' → c' + 250 + 258 * (len o : Int) ≤ 89400 → Ok (rec x0 g x v x4 S') (fun q => SL S0 q.2 ∧ (zI q.2 1 x4).toInt ≤ c' + 250 + 258 * (len o : Int))) →
    (∀ (v x6' v8 : Int32) (S' : ZS), SL S0 S' → (zI S' 1 x4).toInt ≤ c + sm len l → v.toInt = nF S0 2 r b k → Ok (self24 x0 g x3 x4 x5 x6' v v8 S') Q) → Ok (d_X3_putLine_99 rec self24 n x0 g x3 x4 x5 x6 x8 (nk S0 r b k) x10 x11 S) Q := by
  have zm : (-1 : Int32).toInt = -1 := rfl
  have z6 : (6 : Int32).toInt = 6 := rfl
  have fin : ∀ (x6 : Int32) (S : ZS) (d : Int), SL S0 S → (zI S 1 x4).toInt ≤ d → (∀ (v x6' v8 : Int32) (S' : ZS), SL S0 S' → (zI S' 1 x4).toInt ≤ d → v.toInt = nF S0 2 r b k → Ok (self24 x0 g x3 x4 x5 x6' v v8 S') Q) → Ok (d_X3_putLine_183 rec self24 x0 g x3 x4 x5 x6 x8 (nk S0 r b k) S) Q := by
    intro x6 S d hS h3 hself
    obtain ⟨⟨a1, a2, a3, a4⟩, a5, a6, a7⟩ := pl_at hh hS
    have kn : zK S (nk S0 r b k) = 4 := pl_k hS hh.1 (a7 k) (by decide)
    have kx5 : zK S x5 = 0 := pl_k hS hh.1 k5 (by decide)
    have kx4 : zK S x4 = 6 := pl_k hS hh.1 hh.2.2.2.2.2.2.2.2.1 (by decide)
    unfold d_X3_putLine_183
    obtain ⟨⟨y, S1⟩, h1, T1, A1, -⟩ := t_f_X0_play (SZ := S) (x0 := x5) (x1 := zI S 1 (nk S0 r b k)) hS.1 (a7_0 S) kx5
    replace T1 : ZT S1 := T1
    have q1 : EqT S S1 := fq_X0_play h1
    have hS1 : SL S0 S1 := sl_f hS T1 A1 q1 (fz_X0_play h1) (by decide) (by decide) (by decide)
    have kn1 : zK S1 (nk S0 r b k) = 4 := pl_k hS1 hh.1 (a7 k) (by decide)
    have l1 : (zI S1 1 x4).toInt = (zI S 1 x4).toInt := congrArg Int32.toInt ((((fz_X0_play h1) hS.1.2.2.2.2.1).2.2 x4 (lt18 kx4 (by decide))).2.2.1 1 (by rw [kx4]; decide))
    refine ok_chk kn (ok_chk kx5 (ok_calR h1 (ok_chk ⟨q1.1, q1.2.1⟩ (ok_chk kn1 (ok_bnd (fun v2 e2 => ?_))))))
    refine hself _ x6 v2 S1 hS1 (by omega) ?_
    show (zI S1 2 (nk S0 r b k)).toInt = nF S0 2 r b k
    obtain ⟨-, -, b6, -⟩ := pl_at hh hS1
    rw [b6 k 2 (by decide)]
    rfl
  intro l
  induction l with
  | nil =>
    intro n x6 x10 x11 S c hch hl hn hS h3 hc hrec hself
    cases n with
    | zero => omega
    | succ n =>
      have h7 : x10.toInt = -1 := hch
      have e0 : sm len ([] : List Nat) = 0 := rfl
      show Ok (d_X3_putLine_99s rec self24 (d_X3_putLine_99 rec self24 n) x0 g x3 x4 x5 x6 x8 (nk S0 r b k) x10 x11 S) Q
      unfold d_X3_putLine_99s
      have key := fin x6 S (c + sm len []) hS (by omega) hself
      exact ok_if (fun _ => key) (fun _ => ok_ifT (Int32.toInt_inj.1 (by rw [h7]; rfl)) key)
  | cons o l ih =>
    intro n x6 x10 x11 S c hch hl hn hS h3 hc hrec hself
    cases n with
    | zero => exact absurd hn (Nat.not_lt_zero _)
    | succ n =>
      have h7 : x10.toInt = (o : Int) := hch.1
      have ho := hl o List.mem_cons_self
      have e0 : sm len (o :: l) = 258 * (1 + (len o : Int)) + sm len l := rfl
      have snn := sm_nn (len := len) l
      have key := fin x6 S (c + sm len (o :: l)) hS (by omega) hself
      show Ok (d_X3_putLine_99s rec self24 (d_X3_putLine_99 rec self24 n) x0 g x3 x4 x5 x6 x8 (nk S0 r b k) x10 x11 S) Q
      unfold d_X3_putLine_99s
      refine ok_if (fun _ => key) (fun _ => ok_ifF (fun h => by rw [h] at h7; omega) (ok_if (fun _ => key) (fun c6 => ?_)))
      replace c6 := ti_leN (a := (6 : Int32)) (b := x3) c6 rfl rfl
      have kx0 : zK S x0 = 3 := pl_k hS hh.1 hh.2.2.2.2.2.2.2.1 (by decide)
      have kx5 : zK S x5 = 0 := pl_k hS hh.1 k5 (by decide)
      have kx4 : zK S x4 = 6 := pl_k hS hh.1 hh.2.2.2.2.2.2.2.2.1 (by decide)
      obtain ⟨b1, p1, k1, n1⟩ := T_3_1 hS.1 kx0
      refine ok_chk kx0 (ok_calR p1 (ok_bnd (fun v2 e2 => ?_)))
      have t2 : v2.toInt = x3.toInt + 1 := ti_add e2 rfl (show (1 : Int32).toInt = 1 from rfl) (by omega) (by omega)
      refine ok_chk k1 (ok_chk (ti_inN (v := v2) (n := 7) n1 (by omega) (by omega)) ?_)
      obtain ⟨b3, p3, k3⟩ := (hS.1.2.2.2.1 b1).1 k1 v2.toNatClampNeg (ti_cl (v := v2) (by omega) (by omega))
      obtain ⟨⟨y4, S4⟩, h4, T4, A4, -⟩ := t_f_X0_copyFrom (SZ := S) (x0 := b3) (x1 := x5) hS.1 (a7_0 S) k3 kx5
      replace T4 : ZT S4 := T4
      have q4 : EqT S S4 := fq_X0_copyFrom h4
      have hS4 : SL S0 S4 := sl_f hS T4 A4 q4 (fz_X0_copyFrom h4) (by decide) (by decide) (by decide)
      have l4 : (zI S4 1 x4).toInt = (zI S 1 x4).toInt := congrArg Int32.toInt ((((fz_X0_copyFrom h4) hS.1.2.2.2.2.1).2.2 x4 (lt18 kx4 (by decide))).2.2.1 1 (by rw [kx4]; decide))
      refine ok_calR p3 (ok_chk k3 (ok_calR h4 (ok_chk ⟨q4.1, q4.2.1⟩ ?_)))
      refine pl_gap (c := c) hh hS4 (show (zI S4 1 x4).toInt ≤ c by omega) (by omega) (fun y7 S7 hS7 h37 => ?_)
      have kx47 : zK S7 x4 = 6 := pl_k hS7 hh.1 hh.2.2.2.2.2.2.2.2.1 (by decide)
      refine ok_chk kx47 (pl_put (c := c + 1) hh hS7 (by decide) h37 (by omega) (fun y12 S12 hS12 h312 => ?_))
      refine ok_bnd (fun v15 e15 => ?_)
      have t15 : v15.toInt = x3.toInt + 1 := ti_add e15 rfl (show (1 : Int32).toInt = 1 from rfl) (by omega) (by omega)
      have kx012 : zK S12 x0 = 3 := pl_k hS12 hh.1 hh.2.2.2.2.2.2.2.1 (by decide)
      obtain ⟨⟨y17, S18⟩, h18, hS18, h318⟩ := hrec o List.mem_cons_self (by omega) x10 v15 S12 (c + 2) h7 t15 hS12 (by omega) (by omega)
      replace hS18 : SL S0 S18 := hS18
      replace h318 : (zI S18 1 x4).toInt ≤ c + 2 + 250 + 258 * (len o : Int) := h318
      have kx418 : zK S18 x4 = 6 := pl_k hS18 hh.1 hh.2.2.2.2.2.2.2.2.1 (by decide)
      refine ok_chk kx012 (ok_cal2R h18 (ok_chk kx418 (pl_put (c := c + 252 + 258 * (len o : Int)) hh hS18 (by decide) (by omega) (by omega) (fun y22 S23 hS23 h323 => ?_))))
      obtain ⟨⟨a1, a2, a3, a4⟩, a5, a6, a7⟩ := pl_at hh hS23
      obtain ⟨m, hm, km, em⟩ := roz (t_f_X1_at (x1 := x10) hS23.1 a1)
      dsimp only at km em
      rw [pl_nd hh hS23 h7 ho.2] at em
      refine ok_chk a1 (ok_calR hm (ok_chk ⟨rfl, rfl⟩ (ok_chk km (ok_bnd (fun v27 e27 => ?_)))))
      refine ih n 1 (zI S23 3 m) v27 S23 (c + 258 * (1 + (len o : Int))) ?_ (fun j hj => hl j (List.mem_cons_of_mem _ hj)) (by simp only [List.length_cons] at hn; omega) hS23 (by omega) (by omega) (fun j hj => hrec j (List.mem_cons_of_mem _ hj)) (fun v x6' v8 S' hS' h3' hv => hself v x6' v8 S' hS' (by omega) hv)
      have : (zI S23 3 m).toInt = nF S0 3 r b o := by rw [em, a6 o 3 (by decide)]; rfl
      rw [this]; exact hch.2
theorem pl_main (hh : PLh S0 g r b x0 x4 N) (hN : N ≤ 300) (hb : TTb N (nF S0 0 r b) (fun _ => 0)) (hl : TTl N (nF S0 0 r b) (nF S0 2 r b) (nF S0 3 r b) L) : ∀ (m p : Nat), p ≤ N → N < p + m → ∀ (rr : Nat) (x3 : Int32), 0 ≤ x3.toInt ∧ x3.toInt ≤ 6 → 7 ≤ (rr : Int) + x3.toInt → ∀ (f : Nat), N < p + f → ∀ (x5 : Nat) (x6 x7 x8 : Int32) (S : ZS) (c : Int), zK S0 x5 = 0 → x7.toInt = nF S0 2 r b p → SL S0 S → (zI S 1 x4).toInt ≤ c → c + 258 * ((dsc L m p).length : Int) ≤ 89400 → Ok (d_X3_putLine_24 (dr_X3_putLine rr) f x0 g x3 x4 x5 x6 x7 x8 S) (fun q => SL S0 q.2 ∧ (zI q.2 1 x4).toInt ≤ c + 258 * ((dsc L m p).length : Int)) := by
  have zm : (-1 : Int32).toInt = -1 := rfl
  intro m
  induction m with
  | zero => intro p h1 h2; omega
  | succ m ih =>
    intro p hp hm rr x3 hx3 hrr f hf x5 x6 x7 x8 S c k5 hx hS h3 hc
    have hLp := hl p hp
    have hsum : 258 * ((dsc L (m + 1) p).length : Int) = sm (fun x => (dsc L m x).length) (L p) := sm_dsc (L p)
    cases f with
    | zero => omega
    | succ f =>
      show Ok (d_X3_putLine_24s (dr_X3_putLine rr) (d_X3_putLine_24 (dr_X3_putLine rr) f) x0 g x3 x4 x5 x6 x7 x8 S) _
      cases hL : L p with
      | nil =>
        rw [hL] at hLp
        have hC : nF S0 2 r b p = -1 := hLp.1
        have hq : Ok (d_X3_putLine_206 (dr_X3_putLine rr) S) (fun q => SL S0 q.2 ∧ (zI q.2 1 x4).toInt ≤ c + 258 * ((dsc L (m + 1) p).length : Int)) := by
          unfold d_X3_putLine_206
          exact ok_ret ⟨hS, by show (zI S 1 x4).toInt ≤ _; omega⟩
        unfold d_X3_putLine_24s
        exact ok_if (fun _ => hq) (fun _ => ok_ifT (Int32.toInt_inj.1 (by rw [hx, hC]; rfl)) hq)
      | cons F l =>
        rw [hL] at hLp hsum
        have hC : nF S0 2 r b p = (F : Int) := hLp.1.1
        have hmem : ∀ o ∈ F :: l, 1 ≤ o ∧ o ≤ N ∧ nF S0 0 r b o = (p : Int) := fun o ho => (hLp.2.2 o).mp ho
        have hF := hmem F List.mem_cons_self
        have hFp := (hb F hF.1 hF.2.1).1
        have hlen : (F :: l).length ≤ N := by have := chn_len hl hp; rw [hL] at this; exact this
        simp only [List.length_cons] at hlen
        have e0 : sm (fun x => (dsc L m x).length) (F :: l) = 258 * (1 + ((dsc L m F).length : Int)) + sm (fun x => (dsc L m x).length) l := rfl
        have snn := sm_nn (len := fun x => (dsc L m x).length) l
        have goes : ∀ (S' : ZS) (x : Int32) (o : Nat), SL S0 S' → x.toInt = (o : Int) → o ∈ F :: l → zI S' 2 (nd S' g (zI S' 0 (nd S' g x))) = zI S0 2 (nk S0 r b p) := fun S' x o hS' hxo hom => by
          obtain ⟨-, -, a6, -⟩ := pl_at hh hS'
          have hm3 := hmem o hom
          rw [pl_nd hh hS' hxo hm3.2.1, a6 o 0 (by decide)]
          rw [pl_nd hh hS' (k := p) hm3.2.2 hp, a6 p 2 (by decide)]
        refine pl_24s hh (k := F) (c := c) (by rw [hx, hC]) hF.1 hF.2.1 k5 hS h3 (by omega) ⟨hS, by show (zI S 1 x4).toInt ≤ _; omega⟩ (fun t0 S' hS' h3' => ?_)
        unfold d_X3_putLine_74
        obtain ⟨⟨a1, a2, a3, a4⟩, a5, a6, a7⟩ := pl_at hh hS'
        obtain ⟨y, hy, -⟩ := roz (t_f_X1_goesOn (x1 := x7) hS'.1 a1)
        have kn : zK S' (nk S0 r b F) = 4 := pl_k hS' hh.1 (a7 F) (by decide)
        have gv := goes_v hS'.1 a1 hy
        rw [goes S' x7 F hS' (by rw [hx, hC]) List.mem_cons_self] at gv
        have ey : y = 1 := by
          rcases gv with ⟨-, h⟩ | ⟨h, -⟩
          · exact h
          · exact absurd (Int32.toInt_inj.1 (show (zI S0 2 (nk S0 r b p)).toInt = x7.toInt by rw [hx]; rfl)) h
        refine ok_chk a1 (ok_calR hy (ok_chk ⟨rfl, rfl⟩ (ok_ifF (show ¬ y = 0 by rw [ey]; decide) (ok_chk kn ?_))))
        unfold d_X3_putLine_94
        have w1 : (zI S' 3 (nk S0 r b F)).toInt = nF S0 3 r b F := by rw [a6 F 3 (by decide)]; rfl
        refine pl_99 (len := fun x => (dsc L m x).length) hh hN (k := F) hF.2.1 k5 hx3 l mFuel t0 _ 0 S' (c + 250) (by rw [w1]; exact hLp.1.2) (fun o ho => by have := hmem o (List.mem_cons_of_mem _ ho); omega) (by show _ < 200000; omega) hS' h3' (by omega) (fun o ho h6 x v S2 c2 hxo hv hS2 h32 hc2 => ?_) (fun v x6' v8 S2 hS2 h32 hv => ?_)
        · have hom := hmem o (List.mem_cons_of_mem _ ho)
          have hop := (hb o hom.1 hom.2.1).1
          have hoF : o ≠ F := fun e => by
            have := (List.nodup_cons.mp hLp.2.1).1
            exact this (e ▸ ho)
          cases rr with
          | zero => omega
          | succ rr =>
            show Ok (d_X3_putLine_0 (dr_X3_putLine rr) x0 g x v x4 S2) _
            have kx0 : zK S2 x0 = 3 := pl_k hS2 hh.1 hh.2.2.2.2.2.2.2.1 (by decide)
            have kx00 : zK S0 x0 = 3 := hh.2.2.2.2.2.2.2.1
            have z6 : (6 : Int32).toInt = 6 := rfl
            have hT0 := hh.1
            have ff := (hS2.2.2 hT0.2.2.2.2.1).2.2
            obtain ⟨b1, p1, k1, n1⟩ := T_3_1 hT0 kx00
            have p12 : zP S2 1 x0 = some b1 := by
              rw [(ff x0 (lt18 kx00 (by decide))).2.2.2.1 1 (by rw [kx00]; decide)]; exact p1
            have k12 : zK S2 b1 = 15 := (ff b1 (lt18 k1 (by decide))).1.trans k1
            have n12 : zN S2 b1 = 7 := (ff b1 (lt18 k1 (by decide))).2.1.trans n1
            obtain ⟨b2, p2, k2⟩ := (hT0.2.2.2.1 b1).1 k1 v.toNatClampNeg (ti_cl (v := v) (by omega) (by omega))
            have p22 : zB S2 b1 v.toNatClampNeg = some b2 := by
              rw [(ff b1 (lt18 k1 (by decide))).2.2.2.2 (fun h => by cases h)]; exact p2
            unfold d_X3_putLine_0
            refine ok_ifT (Int32.le_iff_toInt_le.2 (by omega)) (ok_chk kx0 (ok_calR p12 (ok_chk k12 (ok_chk (ti_inN (v := v) (n := 7) n12 (by omega) (by omega)) (ok_calR p22 ?_)))))
            obtain ⟨f9, hf9, hf9'⟩ := mF_succ
            rw [hf9]
            show Ok (d_X3_putLine_24s (dr_X3_putLine rr) (d_X3_putLine_24 (dr_X3_putLine rr) f9) x0 g v x4 b2 1 x 0 S2) _
            refine pl_24s hh (k := o) (c := c2) hxo hom.1 hom.2.1 k2 hS2 h32 (by omega) ⟨hS2, by show (zI S2 1 x4).toInt ≤ _; omega⟩ (fun t0 S3 hS3 h33 => ?_)
            unfold d_X3_putLine_74
            obtain ⟨⟨c1, c2', c3, c4⟩, c5, c6, c7⟩ := pl_at hh hS3
            obtain ⟨y3, hy3, -⟩ := roz (t_f_X1_goesOn (x1 := x) hS3.1 c1)
            have gv3 := goes_v hS3.1 c1 hy3
            rw [goes S3 x o hS3 hxo (List.mem_cons_of_mem _ ho)] at gv3
            have ey3 : y3 = 0 := by
              rcases gv3 with ⟨h, -⟩ | ⟨-, h⟩
              · exfalso
                have h8 : nF S0 2 r b p = x.toInt := congrArg Int32.toInt h
                rw [hC, hxo] at h8
                omega
              · exact h
            refine ok_chk c1 (ok_calR hy3 (ok_chk ⟨rfl, rfl⟩ (ok_ifT ey3 ?_)))
            unfold d_X3_putLine_94
            refine pl_99 (len := fun x => (dsc L m x).length) hh hN (k := o) hom.2.1 k2 (by omega) [] mFuel t0 (-1) 0 S3 (c2 + 250) (show (-1 : Int32).toInt = -1 from rfl) (fun _ h => by cases h) (by show 0 < 200000; omega) hS3 h33 (by show c2 + 250 + 0 ≤ 89400; omega) (fun _ h => by cases h) (fun v' x6' v8 S4 hS4 h34 hv' => ?_)
            have h34' : (zI S4 1 x4).toInt ≤ c2 + 250 + 0 := h34
            exact ok_mono (ih o hom.2.1 (by omega) rr v (by omega) (by omega) f9 (by omega) b2 x6' v' v8 S4 (c2 + 250) k2 hv' hS4 (by omega) (by omega)) (fun q hq => hq)
        · exact ok_mono (ih F hF.2.1 (by omega) rr x3 hx3 hrr f (by omega) x5 x6' v v8 S2 (c + 250 + sm (fun x => (dsc L m x).length) l) k5 hv hS2 h32 (by omega)) (fun q hq => ⟨hq.1, by have := hq.2; omega⟩)
end PL
theorem t_d_X3_putLine {S : ZS} {g x0 x4 : Nat} {x2 : Int32} (hT : ZT S) (hZ : TZ S) (hg : 4 ≤ rc g) (k0 : zK S x0 = 3) (k4 : zK S x4 = 6) (ol : rL x4 = 90000) (h3 : (zI S 1 x4).toInt ≤ 6000) (hx : x2 = zI S 2 (nd S g 0)) : Ok (d_X3_putLine x0 g x2 0 x4 S) (fun o => SL S o.2 ∧ (zI o.2 1 x4).toInt ≤ 83400) := by
  obtain ⟨r, b, g', r', b', hgg, hrr, hbb, hX, ⟨hn, hbt, L, hl⟩, hY', -⟩ := tz_g hg hZ
  obtain ⟨⟨a1, -⟩, ⟨b1, -⟩, ⟨c1, -⟩, ⟨d1, -⟩, ⟨e1, -⟩, -⟩ := hX
  have hcn := cn_le hT a1
  have hh : PLh S g r b x0 x4 (cn S g) := ⟨hT, a1, b1, c1, d1, e1, rfl, k0, k4, ol⟩
  have hlen := dsc_len hbt hl (cn S g + 1)
  have z6 : (6 : Int32).toInt = 6 := rfl
  have z0 : (0 : Int32).toInt = 0 := rfl
  show Ok (dr_X3_putLine 8 x0 g x2 0 x4 S) _
  show Ok (d_X3_putLine_0 (dr_X3_putLine 7) x0 g x2 0 x4 S) _
  obtain ⟨bb, p1, k1, n1⟩ := T_3_1 hT k0
  obtain ⟨b2, p2, k2⟩ := (hT.2.2.2.1 bb).1 k1 ((0 : Int32)).toNatClampNeg (by decide)
  unfold d_X3_putLine_0
  refine ok_ifT (by decide) (ok_chk k0 (ok_calR p1 (ok_chk k1 (ok_chk (ti_inN (v := (0 : Int32)) (n := 7) n1 (by decide) (by decide)) (ok_calR p2 ?_)))))
  refine ok_mono (pl_main hh hcn.1 hbt hl (cn S g + 1) 0 (Nat.zero_le _) (by omega) 7 0 (by decide) (by decide) mFuel (by show _ < 0 + 200000; omega) b2 1 x2 0 S 6000 k2 ?_ (sl_0 hT) (by omega) (by omega)) (fun q hq => ⟨hq.1, by have := hq.2; omega⟩)
  rw [hx, nd_nk (i := 0) hT a1 b1 c1 (by decide) (by omega)]
  rfl
end
section
/-- an answer (k = 0), or a throw, with its object made after all else -/
noncomputable def RQ (S : ZS) (k : Nat) (S' : ZS) : Prop := (k = 0 ∧ ZT S' ∧ RP S S') ∨ (k ≠ 0 ∧ ∃ S1, ZT S1 ∧ RP S S1 ∧ S' = zsQ S1)
theorem rq_n {S S' : ZS} (hT : ZT S') (h : RP S S') : RQ S 0 S' := Or.inl ⟨rfl, hT, h⟩
theorem rq_q {S S' : ZS} {k : Nat} (hk : k ≠ 0) (hT : ZT S') (h : RP S S') : RQ S k (zsQ S') := Or.inr ⟨hk, S', hT, h, rfl⟩
theorem zt_Q {S : ZS} (hT : ZT S) : ZT (zsQ S) := by
  obtain ⟨h1, h2, h3, h4, h5, h6, h7, h8, h9, h10, h11⟩ := hT
  exact ⟨h1, h2, h3, h4, fun a ha => h5 a (Nat.le_trans (Nat.le_succ _) ha), h6, h7, h8, h9, h10, Nat.le_trans h11.1 (Nat.le_succ _), h11.2⟩
/-- what cut answers and does -/
noncomputable def CX (S : ZS) (x0 : Nat) (x1 : Int32) (o : Int32 × ZS) : Prop := ∃ w, zP S 0 x0 = some w ∧ zK S w = 6 ∧ ((o.1 = 1 ∧ 0 ≤ x1.toInt ∧ x1.toInt ≤ (zI S 1 w).toInt ∧ (o.2 = S ∨ o.2 = zsI S 1 w x1) ∧ zI o.2 1 w = x1) ∨ (o.1 = 0 ∧ (x1.toInt < 0 ∨ (zI S 1 w).toInt < x1.toInt) ∧ o.2 = S))
theorem cut_x {S : ZS} {x0 : Nat} {x1 : Int32} (hT : ZT S) (kx : zK S x0 = 11) : Ok (f_X11_cut x0 x1 S) (fun o => ZT o.2 ∧ CX S x0 x1 o) := by
  obtain ⟨w, p0, kw, cw⟩ := T_11_0 hT kx
  have z : (0 : Int32).toInt = 0 := rfl
  show Ok (f_X11_cut_0 x0 x1 S) _
  unfold f_X11_cut_0
  refine ok_if (fun c => ?_) (fun c => ?_)
  · have c := ti_ltP (a := x1) (b := 0) c rfl rfl
    unfold f_X11_cut_15
    exact ok_chk (by decide) (ok_ret ⟨hT, w, p0, kw, Or.inr ⟨rfl, Or.inl (by omega), rfl⟩⟩)
  · have c := ti_ltN (a := x1) (b := 0) c rfl rfl
    obtain ⟨r2, h2, p2⟩ := roz (t_f_X6_size (x0 := w) hT kw)
    dsimp only at p2
    have s2 : r2.toInt = (zI S 1 w).toInt := congrArg Int32.toInt p2.2
    refine ok_chk kx (ok_calR p0 (ok_chk kw (ok_calR h2 (ok_if (fun c2 => ?_) (fun c2 => ?_)))))
    · have c2 := ti_leP (a := x1) (b := r2) c2 rfl rfl
      obtain ⟨y, S', h3, T', -, h4⟩ := keep_x (x1 := x1) hT kw
      refine ok_chk kx (ok_calR p0 (ok_chk kw (ok_calR h3 (ok_chk (by decide) (ok_ret ⟨T', w, p0, kw, Or.inl ⟨rfl, by omega, by omega, ?_, ?_⟩⟩)))))
      · rcases h4 with h4 | h4
        · exact Or.inl h4.1
        · exact Or.inr h4.1
      · show zI S' 1 w = x1
        rcases h4 with ⟨e, h4⟩ | ⟨e, -⟩
        · rw [e]
          exact Int32.toInt_inj.1 (by omega)
        · rw [e, zI_self]
    · have c2 := ti_leN (a := x1) (b := r2) c2 rfl rfl
      unfold f_X11_cut_15
      exact ok_chk (by decide) (ok_ret ⟨hT, w, p0, kw, Or.inr ⟨rfl, Or.inr (by omega), rfl⟩⟩)
theorem say_x {S : ZS} {x0 : Nat} (hT : ZT S) (kx : zK S x0 = 11) : Ok (d_X11_say x0 S) (fun o => (o.1.1 ≠ 0 ∧ o.2 = zsQ S) ∨ (o.1.1 = 0 ∧ ∃ w, zP S 0 x0 = some w ∧ ZT o.2 ∧ RM S o.2 ∧ (TZ S → TZ o.2) ∧ (zI o.2 1 w).toInt = 0)) := by
  obtain ⟨w, p0, kw, cw⟩ := T_11_0 hT kx
  have lo := M_11_0 hT kx p0
  have jw := J61_2 hT kw cw
  have z0 : (0 : Int32).toInt = 0 := rfl
  show Ok (d_X11_say_0 x0 S) _
  unfold d_X11_say_0
  obtain ⟨r2, h2, p2⟩ := roz (t_f_X6_size (x0 := w) hT kw)
  dsimp only at p2
  have s2 : r2.toInt = (zI S 1 w).toInt := congrArg Int32.toInt p2.2
  refine ok_chk kx (ok_calR p0 (ok_chk kw (ok_calR h2 (ok_chk ⟨rfl, rfl⟩ (ok_if (fun _ => ok_ret (Or.inl ⟨show (1 : Nat) ≠ 0 by decide, rfl⟩)) (fun c1 => ?_))))))
  have c1 := ti_ltN (a := (200 : Int32)) (b := r2) c1 (show (200 : Int32).toInt = 200 from rfl) rfl
  obtain ⟨r4, h4, -⟩ := roz (t_f_X6_indexOf (x0 := w) (x1 := (125 : Int32)) (x2 := (0 : Int32)) hT kw (by have y0 : (125 : Int32).toInt = 125 := rfl; omega))
  refine ok_chk kx (ok_calR p0 (ok_chk kw (ok_calR h4 (ok_chk ⟨rfl, rfl⟩ (ok_if (fun _ => ok_ret (Or.inl ⟨show (1 : Nat) ≠ 0 by decide, rfl⟩)) (fun c2 => ?_))))))
  obtain ⟨r6, h6, -⟩ := roz (t_f_X6_indexOf (x0 := w) (x1 := (10 : Int32)) (x2 := (0 : Int32)) hT kw (by have y0 : (10 : Int32).toInt = 10 := rfl; omega))
  refine ok_chk kx (ok_calR p0 (ok_chk kw (ok_calR h6 (ok_chk ⟨rfl, rfl⟩ (ok_if (fun c3 => ?_) (fun _ => ok_ret (Or.inl ⟨show (1 : Nat) ≠ 0 by decide, rfl⟩)))))))
  obtain ⟨g, p7, k7⟩ := T_11_7 hT kx
  obtain ⟨r8, h8, p8⟩ := roz (t_f_X1_at (x0 := g) (x1 := (zI S 8 x0)) hT k7)
  dsimp only at p8
  obtain ⟨b9, p9, k9, c9⟩ := T_4_6 hT p8.1
  have rl9 := rL_0 c9
  obtain ⟨⟨r12, S13⟩, h12, T13, R13, -⟩ := t_d_X6_copyFrom (x0 := b9) (x1 := w) (SZ := S) hT (rp_0 S) k9 kw (Or.inr (by omega)) (by omega)
  replace T13 : ZT S13 := T13
  replace R13 : RP S S13 := R13
  have f13 := (fz_X6_copyFrom h12 hT.2.2.2.2.1).2.2
  have fx := f13 x0 (lt18 kx (by decide))
  rw [kx] at fx
  have kw13 : zK S13 w = 6 := (R13.2.2.2 w kw (by omega)).1
  have p13 : zP S13 0 x0 = some w := (fx.2.2.2.1 0 (by decide)).trans p0
  obtain ⟨y, S17, h17, T17, q17, -⟩ := keep_x (x1 := 0) T13 kw13
  have l17 := keep_len kw13 h17 (by decide)
  have kw17 : zK S17 w = 6 := by rw [q17.2.2.1]; exact kw13
  have j17 := J_6_1 T17 kw17
  refine ok_chk kx (ok_calR p7 (ok_chk kx (ok_chk k7 (ok_calR h8 (ok_chk ⟨rfl, rfl⟩ (ok_chk p8.1 (ok_calR p9 (ok_chk kx (ok_calR p0 (ok_chk k9 (ok_cal2R h12 (ok_chk fx.1 (ok_calR p13 (ok_chk kw13 (ok_calR h17 (ok_chk ⟨q17.1, q17.2.1⟩ (ok_ret (Or.inr ⟨rfl, w, p0, T17, rm_t R13.1 (rm_f (rm_0 S13) T13 q17 (fz_X6_keep h17) (by decide)), fun t => tz_fr T13 (fz_X6_keep h17) (by decide) (R13.2.1 t), ?_⟩))))))))))))))))))
  show (zI S17 1 w).toInt = 0
  omega
theorem t_d_X11_type_77 {x0 w : Nat} {x1 : Int64} {x3 : Int32} (hx3 : x3.toInt ≤ 8) (hc : rc w = 2) : ∀ (n : Nat) (x4 : Int32) (S : ZS), ZT S → zK S x0 = 11 → zP S 0 x0 = some w → zK S w = 6 → 0 ≤ x4.toInt → x4.toInt ≤ x3.toInt → (zI S 1 w).toInt + (x3.toInt - x4.toInt) ≤ 2000 → x3.toInt - x4.toInt < (n : Int) → Ok (d_X11_type_77 n x0 x1 x3 x4 S) (fun o => ZT o.2 ∧ RPc w S o.2 ∧ (zI o.2 1 w).toInt = (zI S 1 w).toInt + (x3.toInt - x4.toInt) ∧ o.1 = 1) := by
  intro n
  induction n with
  | zero => intro x4 S _ _ _ _ h1 h2 _ h4; exfalso; omega
  | succ n ih =>
    intro x4 S hT kx p0 kw h1 h2 h3 h4
    show Ok (d_X11_type_77s (d_X11_type_77 n) x0 x1 x3 x4 S) _
    unfold d_X11_type_77s
    refine ok_if (fun c => ?_) (fun c => ?_)
    · have c := ti_leP (a := x3) (b := x4) c rfl rfl
      exact ok_chk (by decide) (ok_ret ⟨hT, rpc_of (rp_0 S), by show (zI S 1 w).toInt = _; omega, rfl⟩)
    · have c := ti_leN (a := x3) (b := x4) c rfl rfl
      obtain ⟨r, h5, r5⟩ := roz (t_f_X11_byteOf (x0 := x1) (x2 := x4) hT)
      dsimp only at r5
      have rl : rL w = 2000 := rL_x2 (by omega) (by omega)
      obtain ⟨⟨y, S5⟩, h6, T5, R5, l5, -⟩ := p_d_X6_put (SZ := S) (x0 := w) (x1 := r) hT (rpc_of (rp_0 S)) kw r5 (by omega)
      replace T5 : ZT S5 := T5
      replace R5 : RPc w S S5 := R5
      replace l5 : (zI S5 1 w).toInt = (zI S 1 w).toInt + 1 := l5
      have f := (fz_X6_put h6 hT.2.2.2.2.1).2.2
      have fx := f x0 (lt18 kx (by decide))
      rw [kx] at fx
      have fw := f w (lt18 kw (by decide))
      rw [kw] at fw
      refine ok_chk kx (ok_calR p0 (ok_calR h5 (ok_chk ⟨rfl, rfl⟩ (ok_chk kw (ok_cal2R h6 (ok_bnd (fun v8 e8 => ?_)))))))
      have t8 : v8.toInt = x4.toInt + 1 := ti_add e8 rfl (show (1 : Int32).toInt = 1 from rfl) (by omega) (by omega)
      obtain ⟨o, ho, a1, a2, a3, a4⟩ := ih v8 S5 T5 fx.1 ((fx.2.2.2.1 0 (by decide)).trans p0) fw.1 (by omega) (by omega) (by omega) (by omega)
      exact ⟨o, ho, a1, rpc_t R5 a2, by omega, a4⟩
theorem t_d_X11_type_31 {x0 w : Nat} {x1 : Int64} {x3 : Int32} {S : ZS} (hx3 : 0 ≤ x3.toInt ∧ x3.toInt ≤ 8) (hc : rc w = 2) (hT : ZT S) (kx : zK S x0 = 11) (p0 : zP S 0 x0 = some w) (kw : zK S w = 6) (h3 : (zI S 1 w).toInt + x3.toInt ≤ 2000) : ∀ (n : Nat) (x4 : Int32), 0 ≤ x4.toInt → x4.toInt ≤ x3.toInt → x3.toInt - x4.toInt < (n : Int) → Ok (d_X11_type_31 n x0 x1 x3 x4 S) (fun o => ZT o.2 ∧ RPc w S o.2 ∧ (zI o.2 1 w).toInt ≤ (zI S 1 w).toInt + 8) := by
  intro n
  induction n with
  | zero => intro x4 h1 h2 h4; exfalso; omega
  | succ n ih =>
    intro x4 h1 h2 h4
    show Ok (d_X11_type_31s (d_X11_type_31 n) x0 x1 x3 x4 S) _
    unfold d_X11_type_31s
    refine ok_if (fun c => ?_) (fun c => ?_)
    · have z0 : (0 : Int32).toInt = 0 := rfl
      obtain ⟨o, ho, a1, a2, a3, -⟩ := t_d_X11_type_77 (x0 := x0) (x1 := x1) hx3.2 hc mFuel 0 S hT kx p0 kw (by omega) (by omega) (by omega) (by show x3.toInt - (0 : Int32).toInt < ((200000 : Nat) : Int); omega)
      exact ⟨o, ho, a1, a2, by omega⟩
    · have c := ti_leN (a := x3) (b := x4) c rfl rfl
      obtain ⟨r, h5, -⟩ := roz (t_f_X11_byteOf (x0 := x1) (x2 := x4) hT)
      have hgo : Ok (d_X11_type_68 (d_X11_type_31 n) x0 x1 x3 x4 S) (fun o => ZT o.2 ∧ RPc w S o.2 ∧ (zI o.2 1 w).toInt ≤ (zI S 1 w).toInt + 8) := by
        unfold d_X11_type_68
        refine ok_bnd (fun v1 e1 => ?_)
        have t1 : v1.toInt = x4.toInt + 1 := ti_add e1 rfl (show (1 : Int32).toInt = 1 from rfl) (by omega) (by omega)
        exact ih v1 (by omega) (by omega) (by omega)
      have hno : Ok (d_X11_type_66 S) (fun o => ZT o.2 ∧ RPc w S o.2 ∧ (zI o.2 1 w).toInt ≤ (zI S 1 w).toInt + 8) := by
        unfold d_X11_type_66
        exact ok_chk (by decide) (ok_ret ⟨hT, rpc_of (rp_0 S), by show (zI S 1 w).toInt ≤ _; omega⟩)
      exact ok_calR h5 (ok_chk ⟨rfl, rfl⟩ (ok_if (fun _ => hgo) (fun _ => ok_if (fun _ => hno) (fun _ => ok_if (fun _ => hgo) (fun _ => hno)))))
theorem t_d_X11_type {S : ZS} {x0 : Nat} {x1 : Int64} {x3 : Int32} (hT : ZT S) (kx : zK S x0 = 11) : Ok (d_X11_type x0 x1 x3 S) (fun o => ZT o.2 ∧ RM S o.2 ∧ (TZ S → TZ o.2) ∧ ∀ w, zP S 0 x0 = some w → (zI o.2 1 w).toInt ≤ (zI S 1 w).toInt + 8) := by
  obtain ⟨w, p0, kw, cw⟩ := T_11_0 hT kx
  have lo := M_11_0 hT kx p0
  have jw := J61_2 hT kw cw
  have z0 : (0 : Int32).toInt = 0 := rfl
  have hno : Ok (d_X11_type_26 S) (fun o => ZT o.2 ∧ RM S o.2 ∧ (TZ S → TZ o.2) ∧ ∀ w, zP S 0 x0 = some w → (zI o.2 1 w).toInt ≤ (zI S 1 w).toInt + 8) := by
    unfold d_X11_type_26
    exact ok_chk (by decide) (ok_ret ⟨hT, rm_0 S, fun t => t, fun v _ => by show (zI S 1 v).toInt ≤ _; omega⟩)
  show Ok (d_X11_type_0 x0 x1 x3 S) _
  unfold d_X11_type_0
  obtain ⟨r2, h2, p2⟩ := roz (t_f_X6_size (x0 := w) hT kw)
  dsimp only at p2
  have s2 : r2.toInt = (zI S 1 w).toInt := congrArg Int32.toInt p2.2
  refine ok_if (fun _ => hno) (fun c1 => ok_if (fun _ => hno) (fun c2 => ok_chk kx (ok_calR p0 (ok_chk kw (ok_calR h2 (ok_chk ⟨rfl, rfl⟩ (ok_bnd (fun v3 e3 => ok_if (fun c3 => ?_) (fun _ => hno)))))))))
  have c1 := ti_ltN (a := x3) (b := (1 : Int32)) c1 rfl (show (1 : Int32).toInt = 1 from rfl)
  have c2 := ti_ltN (a := (8 : Int32)) (b := x3) c2 (show (8 : Int32).toInt = 8 from rfl) rfl
  have t3 : v3.toInt = (zI S 1 w).toInt + x3.toInt := ti_add e3 s2 rfl (by omega) (by omega)
  have c3 := ti_leP (a := v3) (b := (2000 : Int32)) c3 rfl (show (2000 : Int32).toInt = 2000 from rfl)
  obtain ⟨o, ho, a1, a2, a3⟩ := t_d_X11_type_31 (x0 := x0) (x1 := x1) (x3 := x3) ⟨by omega, by omega⟩ (by omega) hT kx p0 kw (by omega) mFuel 0 (by omega) (by omega) (by show x3.toInt - (0 : Int32).toInt < ((200000 : Nat) : Int); omega)
  refine ⟨o, ho, a1, a2.1, a2.2.1, fun v hv => ?_⟩
  rw [p0] at hv
  cases hv
  exact a3
theorem t_d_X11_signs_0 {SZ S : ZS} {x0 : Nat} {x1 : Int32} (hT : ZT S) (hR : RP SZ S) (r_x0 : zK S x0 = 11) : Ok (d_X11_signs_0 x0 x1 S) (fun o => ZT o.2 ∧ RQ SZ o.1.1 o.2 ∧ True) := by
  unfold d_X11_signs_0
  refine ok_chk r_x0 ?_
  obtain ⟨b1, p_b1, k_b1⟩ := T_11_2 hT r_x0
  refine ok_calR p_b1 ?_
  refine ok_chk r_x0 ?_
  obtain ⟨b2, p_b2, k_b2⟩ := T_11_9 hT r_x0
  refine ok_calR p_b2 ?_
  refine ok_chk k_b1 ?_
  obtain ⟨⟨r3, S3⟩, h_r3, T_S3, A_S3, p_r3⟩ := t_f_X7_isLegal (x0 := b1) (x1 := b2) (x2 := x1) (SZ := S) hT (a7_0 S) k_b1 k_b2
  replace T_S3 : ZT S3 := T_S3
  replace A_S3 : A7 S S3 := A_S3
  dsimp only at p_r3
  refine ok_calR h_r3 ?_
  have q_S3 := fq_X7_isLegal h_r3
  have kE_S3 : zK S3 = zK S := q_S3.2.2.1
  have nE_S3 : zN S3 = zN S := q_S3.2.2.2.1
  have R_S3 : RP SZ S3 := rp_f hR hT q_S3 (fz_X7_isLegal h_r3) (by decide) A_S3
  refine ok_chk ⟨q_S3.1, q_S3.2.1⟩ ?_
  refine ok_if (fun c1 => ?_) (fun c1 => ?_)
  ·
    replace c1 := ti_eqP (a := r3) (b := (0 : Int32)) c1 rfl (show (0 : Int32).toInt = 0 from rfl)
    exact ok_ret ⟨(zt_Q T_S3), (rq_q (k := 1) (by decide) T_S3 R_S3), trivial⟩
  ·
    replace c1 := ti_eqN (a := r3) (b := (0 : Int32)) c1 rfl (show (0 : Int32).toInt = 0 from rfl)
    refine ok_chk ((congrFun kE_S3 x0).trans r_x0) ?_
    obtain ⟨b4, p_b4, k_b4, c_b4⟩ := T_11_1 T_S3 ((congrFun kE_S3 x0).trans r_x0)
    have lo_b4 := M_11_1 T_S3 ((congrFun kE_S3 x0).trans r_x0) p_b4
    have rl_b4 := rL_x3 lo_b4 c_b4
    refine ok_calR p_b4 ?_
    refine ok_chk k_b4 ?_
    have j2 := J_6_1 T_S3 k_b4
    obtain ⟨⟨r5, S5⟩, h_r5, T_S5, A_S5, -⟩ := t_f_X6_keep (x0 := b4) (x1 := (0 : Int32)) (SZ := S3) T_S3 (a7_0 S3) k_b4 (rc_ol rl_b4)
    replace T_S5 : ZT S5 := T_S5
    replace A_S5 : A7 S3 S5 := A_S5
    refine ok_calR h_r5 ?_
    have q_S5 := fq_X6_keep h_r5
    have kE_S5 : zK S5 = zK S3 := q_S5.2.2.1
    have nE_S5 : zN S5 = zN S3 := q_S5.2.2.2.1
    have R_S5 : RP SZ S5 := rp_f R_S3 T_S3 q_S5 (fz_X6_keep h_r5) (by decide) A_S5
    have kl := keep_len k_b4 h_r5 (by decide)
    have z9 : (0 : Int32).toInt = 0 := rfl
    refine ok_chk ⟨q_S5.1, q_S5.2.1⟩ ?_
    refine ok_chk ((congrFun kE_S5 x0).trans ((congrFun kE_S3 x0).trans r_x0)) ?_
    obtain ⟨b6, p_b6, k_b6⟩ := T_11_4 T_S5 ((congrFun kE_S5 x0).trans ((congrFun kE_S3 x0).trans r_x0))
    refine ok_calR p_b6 ?_
    refine ok_chk ((congrFun kE_S5 x0).trans ((congrFun kE_S3 x0).trans r_x0)) ?_
    obtain ⟨b7, p_b7, k_b7⟩ := T_11_9 T_S5 ((congrFun kE_S5 x0).trans ((congrFun kE_S3 x0).trans r_x0))
    refine ok_calR p_b7 ?_
    refine ok_chk ((congrFun kE_S5 x0).trans ((congrFun kE_S3 x0).trans r_x0)) ?_
    obtain ⟨b8, p_b8, k_b8, c_b8⟩ := T_11_1 T_S5 ((congrFun kE_S5 x0).trans ((congrFun kE_S3 x0).trans r_x0))
    have lo_b8 := M_11_1 T_S5 ((congrFun kE_S5 x0).trans ((congrFun kE_S3 x0).trans r_x0)) p_b8
    have rl_b8 := rL_x3 lo_b8 c_b8
    refine ok_calR p_b8 ?_
    have eb : b8 = b4 := by have h9 := p_b8; rw [(((fz_X6_keep h_r5) T_S3.2.2.2.2.1).2.2 x0 (lt18 ((congrFun kE_S3 x0).trans r_x0) (by decide))).2.2.2.1 1 (by rw [((congrFun kE_S3 x0).trans r_x0)]; decide), p_b4] at h9; exact (Option.some.inj h9).symm
    rw [← eb] at kl
    refine ok_chk k_b6 ?_
    have j3 := J_6_1 T_S5 k_b8
    obtain ⟨⟨r10, S11⟩, h_r10, T_S11, B_S11, p_r10_0⟩ := t_d_X9_putSigns (x0 := b6) (x1 := b7) (x2 := x1) (x3 := b8) (SZ := S5) T_S5 (rp_0 S5) k_b6 k_b7 k_b8 rfl rl_b8 (by omega)
    replace T_S11 : ZT S11 := T_S11
    replace B_S11 : RP S5 S11 := B_S11
    have R_S11 : RP SZ S11 := rp_t R_S5 B_S11
    dsimp only at p_r10_0
    refine ok_cal2R h_r10 ?_
    have g_S11 := (fz_X9_putSigns h_r10 T_S5.2.2.2.2.1).2.2
    refine ok_chk ((g_S11 x0 (lt18 ((congrFun kE_S5 x0).trans ((congrFun kE_S3 x0).trans r_x0)) (by decide))).1.trans ((congrFun kE_S5 x0).trans ((congrFun kE_S3 x0).trans r_x0))) ?_
    obtain ⟨b14, p_b14, k_b14, c_b14⟩ := T_11_1 T_S11 ((g_S11 x0 (lt18 ((congrFun kE_S5 x0).trans ((congrFun kE_S3 x0).trans r_x0)) (by decide))).1.trans ((congrFun kE_S5 x0).trans ((congrFun kE_S3 x0).trans r_x0)))
    have lo_b14 := M_11_1 T_S11 ((g_S11 x0 (lt18 ((congrFun kE_S5 x0).trans ((congrFun kE_S3 x0).trans r_x0)) (by decide))).1.trans ((congrFun kE_S5 x0).trans ((congrFun kE_S3 x0).trans r_x0))) p_b14
    have rl_b14 := rL_x3 lo_b14 c_b14
    refine ok_calR p_b14 ?_
    refine ok_chk k_b14 ?_
    have j4 := J_6_1 T_S11 k_b14
    obtain ⟨r15, h_r15, p_r15⟩ := roz (t_f_X6_size (x0 := b14) T_S11 k_b14)
    dsimp only at p_r15
    refine ok_calR h_r15 ?_
    have s_r15 : r15.toInt = (zI S11 1 b14).toInt := congrArg Int32.toInt p_r15.2
    refine ok_chk ⟨rfl, rfl⟩ ?_
    exact ok_ret ⟨T_S11, (rq_n T_S11 R_S11), trivial⟩
theorem t_d_X11_signs {SZ S : ZS} {x0 : Nat} {x1 : Int32} (hT : ZT S) (hR : RP SZ S) (r_x0 : zK S x0 = 11) : Ok (d_X11_signs x0 x1 S) (fun o => ZT o.2 ∧ RQ SZ o.1.1 o.2 ∧ True) := t_d_X11_signs_0 hT hR r_x0
theorem t_d_X11_node_0 {SZ S : ZS} {x0 : Nat} {x1 : Int32} {x2 : Int32} (hT : ZT S) (hR : RP SZ S) (r_x0 : zK S x0 = 11) : Ok (d_X11_node_0 x0 x1 x2 S) (fun o => ZT o.2 ∧ RQ SZ o.1.1 o.2 ∧ True) := by
  unfold d_X11_node_0
  refine ok_chk r_x0 ?_
  obtain ⟨b1, p_b1, k_b1⟩ := T_11_7 hT r_x0
  have lo_b1 := M_11_7 hT r_x0 p_b1
  refine ok_calR p_b1 ?_
  refine ok_chk k_b1 ?_
  obtain ⟨r2, h_r2, p_r2⟩ := roz (t_f_X1_has (x0 := b1) (x1 := x1) hT k_b1)
  dsimp only at p_r2
  refine ok_calR h_r2 ?_
  refine ok_chk ⟨rfl, rfl⟩ ?_
  refine ok_if (fun c5 => ?_) (fun c5 => ?_)
  ·
    replace c5 := ti_eqP (a := r2) (b := (0 : Int32)) c5 rfl (show (0 : Int32).toInt = 0 from rfl)
    exact ok_ret ⟨(zt_Q hT), (rq_q (k := 2) (by decide) hT hR), trivial⟩
  ·
    replace c5 := ti_eqN (a := r2) (b := (0 : Int32)) c5 rfl (show (0 : Int32).toInt = 0 from rfl)
    refine ok_chk r_x0 ?_
    refine ok_calR p_b1 ?_
    refine ok_chk k_b1 ?_
    obtain ⟨r4, h_r4, p_r4⟩ := roz (t_f_X1_at (x0 := b1) (x1 := x1) hT k_b1)
    dsimp only at p_r4
    refine ok_calR h_r4 ?_
    refine ok_chk ⟨rfl, rfl⟩ ?_
    refine ok_if (fun c6 => ?_) (fun c6 => ?_)
    ·
      replace c6 := ti_eqP (a := x2) (b := (0 : Int32)) c6 rfl (show (0 : Int32).toInt = 0 from rfl)
      refine ok_chk p_r4.1 ?_
      exact ok_ret ⟨hT, (rq_n hT hR), trivial⟩
    ·
      replace c6 := ti_eqN (a := x2) (b := (0 : Int32)) c6 rfl (show (0 : Int32).toInt = 0 from rfl)
      refine ok_if (fun c7 => ?_) (fun c7 => ?_)
      ·
        replace c7 := ti_eqP (a := x2) (b := (1 : Int32)) c7 rfl (show (1 : Int32).toInt = 1 from rfl)
        refine ok_chk p_r4.1 ?_
        exact ok_ret ⟨hT, (rq_n hT hR), trivial⟩
      ·
        replace c7 := ti_eqN (a := x2) (b := (1 : Int32)) c7 rfl (show (1 : Int32).toInt = 1 from rfl)
        refine ok_if (fun c8 => ?_) (fun c8 => ?_)
        ·
          replace c8 := ti_eqP (a := x2) (b := (2 : Int32)) c8 rfl (show (2 : Int32).toInt = 2 from rfl)
          refine ok_chk p_r4.1 ?_
          exact ok_ret ⟨hT, (rq_n hT hR), trivial⟩
        ·
          replace c8 := ti_eqN (a := x2) (b := (2 : Int32)) c8 rfl (show (2 : Int32).toInt = 2 from rfl)
          refine ok_if (fun c9 => ?_) (fun c9 => ?_)
          ·
            replace c9 := ti_eqP (a := x2) (b := (3 : Int32)) c9 rfl (show (3 : Int32).toInt = 3 from rfl)
            refine ok_chk p_r4.1 ?_
            exact ok_ret ⟨hT, (rq_n hT hR), trivial⟩
          ·
            replace c9 := ti_eqN (a := x2) (b := (3 : Int32)) c9 rfl (show (3 : Int32).toInt = 3 from rfl)
            refine ok_if (fun c10 => ?_) (fun c10 => ?_)
            ·
              replace c10 := ti_eqP (a := x2) (b := (4 : Int32)) c10 rfl (show (4 : Int32).toInt = 4 from rfl)
              refine ok_chk p_r4.1 ?_
              exact ok_ret ⟨hT, (rq_n hT hR), trivial⟩
            ·
              replace c10 := ti_eqN (a := x2) (b := (4 : Int32)) c10 rfl (show (4 : Int32).toInt = 4 from rfl)
              refine ok_if (fun c11 => ?_) (fun c11 => ?_)
              ·
                replace c11 := ti_eqP (a := x2) (b := (5 : Int32)) c11 rfl (show (5 : Int32).toInt = 5 from rfl)
                refine ok_chk p_r4.1 ?_
                obtain ⟨b5, p_b5, k_b5, c_b5⟩ := T_4_6 hT p_r4.1
                have rl_b5 := rL_0 c_b5
                refine ok_calR p_b5 ?_
                refine ok_chk k_b5 ?_
                have j12 := J61_0 hT k_b5 c_b5
                obtain ⟨r6, h_r6, p_r6⟩ := roz (t_f_X6_size (x0 := b5) hT k_b5)
                dsimp only at p_r6
                refine ok_calR h_r6 ?_
                have s_r6 : r6.toInt = (zI S 1 b5).toInt := congrArg Int32.toInt p_r6.2
                refine ok_chk ⟨rfl, rfl⟩ ?_
                exact ok_ret ⟨hT, (rq_n hT hR), trivial⟩
              ·
                replace c11 := ti_eqN (a := x2) (b := (5 : Int32)) c11 rfl (show (5 : Int32).toInt = 5 from rfl)
                exact ok_ret ⟨(zt_Q hT), (rq_q (k := 2) (by decide) hT hR), trivial⟩
theorem t_d_X11_node {SZ S : ZS} {x0 : Nat} {x1 : Int32} {x2 : Int32} (hT : ZT S) (hR : RP SZ S) (r_x0 : zK S x0 = 11) : Ok (d_X11_node x0 x1 x2 S) (fun o => ZT o.2 ∧ RQ SZ o.1.1 o.2 ∧ True) := t_d_X11_node_0 hT hR r_x0
theorem t_d_X11_mark_0 {SZ S : ZS} {x0 : Nat} {x1 : Int32} {x2 : Int32} (hT : ZT S) (hR : RP SZ S) (r_x0 : zK S x0 = 11) : Ok (d_X11_mark_0 x0 x1 x2 S) (fun o => ZT o.2 ∧ RQ SZ o.1.1 o.2 ∧ True) := by
  unfold d_X11_mark_0
  refine ok_chk r_x0 ?_
  obtain ⟨b1, p_b1, k_b1⟩ := T_11_7 hT r_x0
  have lo_b1 := M_11_7 hT r_x0 p_b1
  refine ok_calR p_b1 ?_
  refine ok_chk k_b1 ?_
  obtain ⟨r2, h_r2, p_r2⟩ := roz (t_f_X1_has (x0 := b1) (x1 := x1) hT k_b1)
  dsimp only at p_r2
  refine ok_calR h_r2 ?_
  refine ok_chk ⟨rfl, rfl⟩ ?_
  refine ok_if (fun c13 => ?_) (fun c13 => ?_)
  ·
    replace c13 := ti_eqP (a := r2) (b := (0 : Int32)) c13 rfl (show (0 : Int32).toInt = 0 from rfl)
    unfold d_X11_mark_30
    exact ok_ret ⟨(zt_Q hT), (rq_q (k := 2) (by decide) hT hR), trivial⟩
  ·
    replace c13 := ti_eqN (a := r2) (b := (0 : Int32)) c13 rfl (show (0 : Int32).toInt = 0 from rfl)
    refine ok_if (fun c14 => ?_) (fun c14 => ?_)
    ·
      replace c14 := ti_ltP (a := x2) (b := (0 : Int32)) c14 rfl (show (0 : Int32).toInt = 0 from rfl)
      unfold d_X11_mark_30
      exact ok_ret ⟨(zt_Q hT), (rq_q (k := 2) (by decide) hT hR), trivial⟩
    ·
      replace c14 := ti_ltN (a := x2) (b := (0 : Int32)) c14 rfl (show (0 : Int32).toInt = 0 from rfl)
      refine ok_chk r_x0 ?_
      refine ok_calR p_b1 ?_
      refine ok_chk k_b1 ?_
      obtain ⟨r4, h_r4, p_r4⟩ := roz (t_f_X1_at (x0 := b1) (x1 := x1) hT k_b1)
      dsimp only at p_r4
      refine ok_calR h_r4 ?_
      refine ok_chk ⟨rfl, rfl⟩ ?_
      refine ok_chk p_r4.1 ?_
      have j15 := J_4_4 hT p_r4.1
      refine ok_if (fun c16 => ?_) (fun c16 => ?_)
      ·
        replace c16 := ti_ltP (a := x2) (b := (zI S 4 r4)) c16 rfl rfl
        refine ok_chk r_x0 ?_
        refine ok_calR p_b1 ?_
        refine ok_chk k_b1 ?_
        obtain ⟨r6, h_r6, p_r6⟩ := roz (t_f_X1_at (x0 := b1) (x1 := x1) hT k_b1)
        dsimp only at p_r6
        refine ok_calR h_r6 ?_
        refine ok_chk ⟨rfl, rfl⟩ ?_
        refine ok_chk p_r6.1 ?_
        obtain ⟨r7, h_r7, p_r7⟩ := roz (t_f_X4_markAt (x0 := r6) (x1 := x2) hT p_r6.1)
        dsimp only at p_r7
        refine ok_calR h_r7 ?_
        refine ok_chk ⟨rfl, rfl⟩ ?_
        exact ok_ret ⟨hT, (rq_n hT hR), trivial⟩
      ·
        replace c16 := ti_ltN (a := x2) (b := (zI S 4 r4)) c16 rfl rfl
        unfold d_X11_mark_30
        exact ok_ret ⟨(zt_Q hT), (rq_q (k := 2) (by decide) hT hR), trivial⟩
theorem t_d_X11_mark {SZ S : ZS} {x0 : Nat} {x1 : Int32} {x2 : Int32} (hT : ZT S) (hR : RP SZ S) (r_x0 : zK S x0 = 11) : Ok (d_X11_mark x0 x1 x2 S) (fun o => ZT o.2 ∧ RQ SZ o.1.1 o.2 ∧ True) := t_d_X11_mark_0 hT hR r_x0
theorem t_d_X11_remark_0 {SZ S : ZS} {x0 : Nat} {x1 : Int32} {x2 : Int32} (hT : ZT S) (hR : RP SZ S) (r_x0 : zK S x0 = 11) : Ok (d_X11_remark_0 x0 x1 x2 S) (fun o => ZT o.2 ∧ RQ SZ o.1.1 o.2 ∧ True) := by
  unfold d_X11_remark_0
  refine ok_chk r_x0 ?_
  obtain ⟨b1, p_b1, k_b1⟩ := T_11_7 hT r_x0
  have lo_b1 := M_11_7 hT r_x0 p_b1
  refine ok_calR p_b1 ?_
  refine ok_chk k_b1 ?_
  obtain ⟨r2, h_r2, p_r2⟩ := roz (t_f_X1_has (x0 := b1) (x1 := x1) hT k_b1)
  dsimp only at p_r2
  refine ok_calR h_r2 ?_
  refine ok_chk ⟨rfl, rfl⟩ ?_
  refine ok_if (fun c17 => ?_) (fun c17 => ?_)
  ·
    replace c17 := ti_eqP (a := r2) (b := (0 : Int32)) c17 rfl (show (0 : Int32).toInt = 0 from rfl)
    unfold d_X11_remark_33
    exact ok_ret ⟨(zt_Q hT), (rq_q (k := 2) (by decide) hT hR), trivial⟩
  ·
    replace c17 := ti_eqN (a := r2) (b := (0 : Int32)) c17 rfl (show (0 : Int32).toInt = 0 from rfl)
    refine ok_if (fun c18 => ?_) (fun c18 => ?_)
    ·
      replace c18 := ti_ltP (a := x2) (b := (0 : Int32)) c18 rfl (show (0 : Int32).toInt = 0 from rfl)
      unfold d_X11_remark_33
      exact ok_ret ⟨(zt_Q hT), (rq_q (k := 2) (by decide) hT hR), trivial⟩
    ·
      replace c18 := ti_ltN (a := x2) (b := (0 : Int32)) c18 rfl (show (0 : Int32).toInt = 0 from rfl)
      refine ok_chk r_x0 ?_
      refine ok_calR p_b1 ?_
      refine ok_chk k_b1 ?_
      obtain ⟨r4, h_r4, p_r4⟩ := roz (t_f_X1_at (x0 := b1) (x1 := x1) hT k_b1)
      dsimp only at p_r4
      refine ok_calR h_r4 ?_
      refine ok_chk ⟨rfl, rfl⟩ ?_
      refine ok_chk p_r4.1 ?_
      obtain ⟨b5, p_b5, k_b5, c_b5⟩ := T_4_6 hT p_r4.1
      have rl_b5 := rL_0 c_b5
      refine ok_calR p_b5 ?_
      refine ok_chk k_b5 ?_
      have j19 := J61_0 hT k_b5 c_b5
      obtain ⟨r6, h_r6, p_r6⟩ := roz (t_f_X6_size (x0 := b5) hT k_b5)
      dsimp only at p_r6
      refine ok_calR h_r6 ?_
      have s_r6 : r6.toInt = (zI S 1 b5).toInt := congrArg Int32.toInt p_r6.2
      refine ok_chk ⟨rfl, rfl⟩ ?_
      refine ok_if (fun c20 => ?_) (fun c20 => ?_)
      ·
        replace c20 := ti_ltP (a := x2) (b := r6) c20 rfl rfl
        refine ok_chk r_x0 ?_
        refine ok_calR p_b1 ?_
        refine ok_chk k_b1 ?_
        obtain ⟨r8, h_r8, p_r8⟩ := roz (t_f_X1_at (x0 := b1) (x1 := x1) hT k_b1)
        dsimp only at p_r8
        refine ok_calR h_r8 ?_
        refine ok_chk ⟨rfl, rfl⟩ ?_
        refine ok_chk p_r8.1 ?_
        obtain ⟨b9, p_b9, k_b9, c_b9⟩ := T_4_6 hT p_r8.1
        have rl_b9 := rL_0 c_b9
        refine ok_calR p_b9 ?_
        refine ok_chk k_b9 ?_
        have j21 := J61_0 hT k_b9 c_b9
        obtain ⟨r10, h_r10, p_r10⟩ := roz (t_f_X6_at (x0 := b9) (x1 := x2) hT k_b9)
        dsimp only at p_r10
        refine ok_calR h_r10 ?_
        refine ok_chk ⟨rfl, rfl⟩ ?_
        exact ok_ret ⟨hT, (rq_n hT hR), trivial⟩
      ·
        replace c20 := ti_ltN (a := x2) (b := r6) c20 rfl rfl
        unfold d_X11_remark_33
        exact ok_ret ⟨(zt_Q hT), (rq_q (k := 2) (by decide) hT hR), trivial⟩
theorem t_d_X11_remark {SZ S : ZS} {x0 : Nat} {x1 : Int32} {x2 : Int32} (hT : ZT S) (hR : RP SZ S) (r_x0 : zK S x0 = 11) : Ok (d_X11_remark x0 x1 x2 S) (fun o => ZT o.2 ∧ RQ SZ o.1.1 o.2 ∧ True) := t_d_X11_remark_0 hT hR r_x0
theorem t_d_X11_man_0 {SZ S : ZS} {x0 : Nat} {x1 : Int32} (hT : ZT S) (hR : RP SZ S) (r_x0 : zK S x0 = 11) : Ok (d_X11_man_0 x0 x1 S) (fun o => ZT o.2 ∧ RQ SZ o.1.1 o.2 ∧ True) := by
  unfold d_X11_man_0
  refine ok_if (fun c22 => ?_) (fun c22 => ?_)
  ·
    replace c22 := ti_ltP (a := x1) (b := (0 : Int32)) c22 rfl (show (0 : Int32).toInt = 0 from rfl)
    unfold d_X11_man_10
    exact ok_ret ⟨(zt_Q hT), (rq_q (k := 2) (by decide) hT hR), trivial⟩
  ·
    replace c22 := ti_ltN (a := x1) (b := (0 : Int32)) c22 rfl (show (0 : Int32).toInt = 0 from rfl)
    refine ok_if (fun c23 => ?_) (fun c23 => ?_)
    ·
      replace c23 := ti_ltP (a := x1) (b := (64 : Int32)) c23 rfl (show (64 : Int32).toInt = 64 from rfl)
      refine ok_chk r_x0 ?_
      obtain ⟨b1, p_b1, k_b1⟩ := T_11_9 hT r_x0
      refine ok_calR p_b1 ?_
      refine ok_chk k_b1 ?_
      obtain ⟨b2, p_b2, k_b2, n_b2⟩ := T_0_0 hT k_b1
      refine ok_calR p_b2 ?_
      refine ok_chk k_b2 ?_
      refine ok_chk (ti_inN (v := x1) (n := 64) n_b2 (by omega) (by omega)) ?_
      refine ok_bnd (fun v3 e24 => ?_)
      exact ok_ret ⟨hT, (rq_n hT hR), trivial⟩
    ·
      replace c23 := ti_ltN (a := x1) (b := (64 : Int32)) c23 rfl (show (64 : Int32).toInt = 64 from rfl)
      unfold d_X11_man_10
      exact ok_ret ⟨(zt_Q hT), (rq_q (k := 2) (by decide) hT hR), trivial⟩
theorem t_d_X11_man {SZ S : ZS} {x0 : Nat} {x1 : Int32} (hT : ZT S) (hR : RP SZ S) (r_x0 : zK S x0 = 11) : Ok (d_X11_man x0 x1 S) (fun o => ZT o.2 ∧ RQ SZ o.1.1 o.2 ∧ True) := t_d_X11_man_0 hT hR r_x0
theorem t_d_X11_addMark_0 {SZ S : ZS} {x0 : Nat} {x1 : Int32} (hT : ZT S) (hR : RP SZ S) (r_x0 : zK S x0 = 11) : Ok (d_X11_addMark_0 x0 x1 S) (fun o => ZT o.2 ∧ RQ SZ o.1.1 o.2 ∧ True) := by
  unfold d_X11_addMark_0
  refine ok_if (fun c25 => ?_) (fun c25 => ?_)
  ·
    replace c25 := ti_ltP (a := x1) (b := (0 : Int32)) c25 rfl (show (0 : Int32).toInt = 0 from rfl)
    unfold d_X11_addMark_11
    exact ok_ret ⟨(zt_Q hT), (rq_q (k := 1) (by decide) hT hR), trivial⟩
  ·
    replace c25 := ti_ltN (a := x1) (b := (0 : Int32)) c25 rfl (show (0 : Int32).toInt = 0 from rfl)
    refine ok_if (fun c26 => ?_) (fun c26 => ?_)
    ·
      replace c26 := ti_leP (a := x1) (b := (255 : Int32)) c26 rfl (show (255 : Int32).toInt = 255 from rfl)
      refine ok_chk r_x0 ?_
      obtain ⟨b1, p_b1, k_b1⟩ := T_11_7 hT r_x0
      have lo_b1 := M_11_7 hT r_x0 p_b1
      refine ok_calR p_b1 ?_
      refine ok_chk r_x0 ?_
      refine ok_chk k_b1 ?_
      obtain ⟨r2, h_r2, p_r2⟩ := roz (t_f_X1_at (x0 := b1) (x1 := (zI S 8 x0)) hT k_b1)
      dsimp only at p_r2
      refine ok_calR h_r2 ?_
      refine ok_chk ⟨rfl, rfl⟩ ?_
      refine ok_chk r_x0 ?_
      have j27 := J_11_8 hT r_x0
      refine ok_if (fun c28 => ?_) (fun c28 => ?_)
      ·
        replace c28 := ti_eqP (a := (zI S 8 x0)) (b := (0 : Int32)) c28 rfl (show (0 : Int32).toInt = 0 from rfl)
        unfold d_X11_addMark_48
        exact ok_ret ⟨(zt_Q hT), (rq_q (k := 4) (by decide) hT hR), trivial⟩
      ·
        replace c28 := ti_eqN (a := (zI S 8 x0)) (b := (0 : Int32)) c28 rfl (show (0 : Int32).toInt = 0 from rfl)
        refine ok_chk p_r2.1 ?_
        have j29 := J_4_4 hT p_r2.1
        refine ok_if (fun c30 => ?_) (fun c30 => ?_)
        ·
          replace c30 := ti_ltP (a := (zI S 4 r2)) (b := (4 : Int32)) c30 rfl (show (4 : Int32).toInt = 4 from rfl)
          refine ok_chk p_r2.1 ?_
          obtain ⟨⟨r3, S3⟩, h_r3, T_S3, A_S3, -⟩ := t_f_X4_putMark (x0 := r2) (x1 := x1) (SZ := S) hT (a7_0 S) p_r2.1 (by omega)
          replace T_S3 : ZT S3 := T_S3
          replace A_S3 : A7 S S3 := A_S3
          refine ok_calR h_r3 ?_
          have q_S3 := fq_X4_putMark h_r3
          have kE_S3 : zK S3 = zK S := q_S3.2.2.1
          have nE_S3 : zN S3 = zN S := q_S3.2.2.2.1
          have R_S3 : RP SZ S3 := rp_f hR hT q_S3 (fz_X4_putMark h_r3) (by decide) A_S3
          refine ok_chk ⟨q_S3.1, q_S3.2.1⟩ ?_
          refine ok_chk ((congrFun kE_S3 r2).trans p_r2.1) ?_
          exact ok_ret ⟨T_S3, (rq_n T_S3 R_S3), trivial⟩
        ·
          replace c30 := ti_ltN (a := (zI S 4 r2)) (b := (4 : Int32)) c30 rfl (show (4 : Int32).toInt = 4 from rfl)
          unfold d_X11_addMark_48
          exact ok_ret ⟨(zt_Q hT), (rq_q (k := 4) (by decide) hT hR), trivial⟩
    ·
      replace c26 := ti_leN (a := x1) (b := (255 : Int32)) c26 rfl (show (255 : Int32).toInt = 255 from rfl)
      unfold d_X11_addMark_11
      exact ok_ret ⟨(zt_Q hT), (rq_q (k := 1) (by decide) hT hR), trivial⟩
theorem t_d_X11_addMark {SZ S : ZS} {x0 : Nat} {x1 : Int32} (hT : ZT S) (hR : RP SZ S) (r_x0 : zK S x0 = 11) : Ok (d_X11_addMark x0 x1 S) (fun o => ZT o.2 ∧ RQ SZ o.1.1 o.2 ∧ True) := t_d_X11_addMark_0 hT hR r_x0
theorem t_d_X11_end_0 {SZ S : ZS} {x0 : Nat} {x1 : Int32} (hT : ZT S) (hR : RP SZ S) (r_x0 : zK S x0 = 11) : Ok (d_X11_end_0 x0 x1 S) (fun o => ZT o.2 ∧ RQ SZ o.1.1 o.2 ∧ True) := by
  unfold d_X11_end_0
  refine ok_if (fun c31 => ?_) (fun c31 => ?_)
  ·
    replace c31 := ti_ltP (a := x1) (b := (0 : Int32)) c31 rfl (show (0 : Int32).toInt = 0 from rfl)
    unfold d_X11_end_9
    exact ok_ret ⟨(zt_Q hT), (rq_q (k := 1) (by decide) hT hR), trivial⟩
  ·
    replace c31 := ti_ltN (a := x1) (b := (0 : Int32)) c31 rfl (show (0 : Int32).toInt = 0 from rfl)
    refine ok_if (fun c32 => ?_) (fun c32 => ?_)
    ·
      replace c32 := ti_ltP (a := x1) (b := (4 : Int32)) c32 rfl (show (4 : Int32).toInt = 4 from rfl)
      refine ok_chk r_x0 ?_
      obtain ⟨b1, p_b1, k_b1⟩ := T_11_7 hT r_x0
      have lo_b1 := M_11_7 hT r_x0 p_b1
      refine ok_calR p_b1 ?_
      refine ok_chk k_b1 ?_
      refine ok_bnd (fun S2 e33 => ?_)
      have T_S2 : ZT S2 := e33.symm ▸ zt_W hT k_b1 (by decide) rfl
      have kE_S2 : zK S2 = zK S := by rw [e33]; rfl
      have nE_S2 : zN S2 = zN S := by rw [e33]; rfl
      have R_S2 : RP SZ S2 := rp_I hR hT k_b1 e33 (by decide)
      exact ok_ret ⟨T_S2, (rq_n T_S2 R_S2), trivial⟩
    ·
      replace c32 := ti_ltN (a := x1) (b := (4 : Int32)) c32 rfl (show (4 : Int32).toInt = 4 from rfl)
      unfold d_X11_end_9
      exact ok_ret ⟨(zt_Q hT), (rq_q (k := 1) (by decide) hT hR), trivial⟩
theorem t_d_X11_end {SZ S : ZS} {x0 : Nat} {x1 : Int32} (hT : ZT S) (hR : RP SZ S) (r_x0 : zK S x0 = 11) : Ok (d_X11_end x0 x1 S) (fun o => ZT o.2 ∧ RQ SZ o.1.1 o.2 ∧ True) := t_d_X11_end_0 hT hR r_x0
theorem t_d_X11_tag_0 {SZ S : ZS} {x0 : Nat} {x1 : Int32} {x2 : Int32} {x3 : Int32} (hT : ZT S) (hR : RP SZ S) (r_x0 : zK S x0 = 11) : Ok (d_X11_tag_0 x0 x1 x2 x3 S) (fun o => ZT o.2 ∧ RQ SZ o.1.1 o.2 ∧ True) := by
  unfold d_X11_tag_0
  refine ok_if (fun c34 => ?_) (fun c34 => ?_)
  ·
    replace c34 := ti_ltP (a := x1) (b := (0 : Int32)) c34 rfl (show (0 : Int32).toInt = 0 from rfl)
    unfold d_X11_tag_19
    exact ok_ret ⟨(zt_Q hT), (rq_q (k := 2) (by decide) hT hR), trivial⟩
  ·
    replace c34 := ti_ltN (a := x1) (b := (0 : Int32)) c34 rfl (show (0 : Int32).toInt = 0 from rfl)
    refine ok_chk r_x0 ?_
    obtain ⟨b1, p_b1, k_b1⟩ := T_11_7 hT r_x0
    have lo_b1 := M_11_7 hT r_x0 p_b1
    refine ok_calR p_b1 ?_
    refine ok_chk k_b1 ?_
    have j35 := J_1_5 hT k_b1
    refine ok_if (fun c36 => ?_) (fun c36 => ?_)
    ·
      replace c36 := ti_leP (a := (zI S 5 b1)) (b := x1) c36 rfl rfl
      unfold d_X11_tag_19
      exact ok_ret ⟨(zt_Q hT), (rq_q (k := 2) (by decide) hT hR), trivial⟩
    ·
      replace c36 := ti_leN (a := (zI S 5 b1)) (b := x1) c36 rfl rfl
      refine ok_if (fun c37 => ?_) (fun c37 => ?_)
      ·
        replace c37 := ti_leP (a := (0 : Int32)) (b := x3) c37 (show (0 : Int32).toInt = 0 from rfl) rfl
        refine ok_chk r_x0 ?_
        refine ok_calR p_b1 ?_
        refine ok_chk k_b1 ?_
        obtain ⟨r4, h_r4, p_r4⟩ := roz (t_d_X1_tagAt (x0 := b1) (x1 := x1) hT k_b1 (by omega))
        dsimp only at p_r4
        refine ok_cal2R h_r4 ?_
        refine ok_if (fun c38 => ?_) (fun c38 => ?_)
        ·
          replace c38 := ti_eqP (a := x2) (b := (0 : Int32)) c38 rfl (show (0 : Int32).toInt = 0 from rfl)
          refine ok_chk p_r4 ?_
          obtain ⟨b8, p_b8, k_b8, c_b8⟩ := T_10_0 hT p_r4
          have rl_b8 := rL_0 c_b8
          refine ok_calR p_b8 ?_
          refine ok_chk k_b8 ?_
          have j39 := J61_0 hT k_b8 c_b8
          obtain ⟨r9, h_r9, p_r9⟩ := roz (t_f_X6_at (x0 := b8) (x1 := x3) hT k_b8)
          dsimp only at p_r9
          refine ok_calR h_r9 ?_
          refine ok_chk ⟨rfl, rfl⟩ ?_
          unfold d_X11_tag_65
          exact ok_ret ⟨hT, (rq_n hT hR), trivial⟩
        ·
          replace c38 := ti_eqN (a := x2) (b := (0 : Int32)) c38 rfl (show (0 : Int32).toInt = 0 from rfl)
          refine ok_chk p_r4 ?_
          obtain ⟨b10, p_b10, k_b10, c_b10⟩ := T_10_1 hT p_r4
          have rl_b10 := rL_0 c_b10
          refine ok_calR p_b10 ?_
          refine ok_chk k_b10 ?_
          have j40 := J61_0 hT k_b10 c_b10
          obtain ⟨r11, h_r11, p_r11⟩ := roz (t_f_X6_at (x0 := b10) (x1 := x3) hT k_b10)
          dsimp only at p_r11
          refine ok_calR h_r11 ?_
          refine ok_chk ⟨rfl, rfl⟩ ?_
          unfold d_X11_tag_65
          exact ok_ret ⟨hT, (rq_n hT hR), trivial⟩
      ·
        replace c37 := ti_leN (a := (0 : Int32)) (b := x3) c37 (show (0 : Int32).toInt = 0 from rfl) rfl
        unfold d_X11_tag_19
        exact ok_ret ⟨(zt_Q hT), (rq_q (k := 2) (by decide) hT hR), trivial⟩
theorem t_d_X11_tag {SZ S : ZS} {x0 : Nat} {x1 : Int32} {x2 : Int32} {x3 : Int32} (hT : ZT S) (hR : RP SZ S) (r_x0 : zK S x0 = 11) : Ok (d_X11_tag x0 x1 x2 x3 S) (fun o => ZT o.2 ∧ RQ SZ o.1.1 o.2 ∧ True) := t_d_X11_tag_0 hT hR r_x0
theorem t_d_X11_go_0 {SZ S : ZS} {x0 : Nat} {x1 : Int32} (hT : ZT S) (hR : RP SZ S) (r_x0 : zK S x0 = 11) : Ok (d_X11_go_0 x0 x1 S) (fun o => ZT o.2 ∧ RQ SZ o.1.1 o.2 ∧ True) := by
  unfold d_X11_go_0
  refine ok_chk r_x0 ?_
  obtain ⟨b1, p_b1, k_b1⟩ := T_11_7 hT r_x0
  have lo_b1 := M_11_7 hT r_x0 p_b1
  refine ok_calR p_b1 ?_
  refine ok_chk k_b1 ?_
  obtain ⟨r2, h_r2, p_r2⟩ := roz (t_f_X1_has (x0 := b1) (x1 := x1) hT k_b1)
  dsimp only at p_r2
  refine ok_calR h_r2 ?_
  have j9 := J_1_3 hT k_b1
  refine ok_chk ⟨rfl, rfl⟩ ?_
  refine ok_if (fun c41 => ?_) (fun c41 => ?_)
  ·
    replace c41 := ti_eqP (a := r2) (b := (0 : Int32)) c41 rfl (show (0 : Int32).toInt = 0 from rfl)
    exact ok_ret ⟨(zt_Q hT), (rq_q (k := 2) (by decide) hT hR), trivial⟩
  ·
    replace c41 := ti_eqN (a := r2) (b := (0 : Int32)) c41 rfl (show (0 : Int32).toInt = 0 from rfl)
    refine ok_chk r_x0 ?_
    refine ok_bnd (fun S3 e42 => ?_)
    have T_S3 : ZT S3 := e42.symm ▸ zt_I hT r_x0 (by decide) (show (0 : Int) ≤ x1.toInt ∧ x1.toInt ≤ (300 : Int) from (by omega))
    have kE_S3 : zK S3 = zK S := by rw [e42]; rfl
    have nE_S3 : zN S3 = zN S := by rw [e42]; rfl
    have R_S3 : RP SZ S3 := rp_I hR hT r_x0 e42 (by decide)
    refine ok_chk ((congrFun kE_S3 x0).trans r_x0) ?_
    obtain ⟨b4, p_b4, k_b4⟩ := T_11_7 T_S3 ((congrFun kE_S3 x0).trans r_x0)
    have lo_b4 := M_11_7 T_S3 ((congrFun kE_S3 x0).trans r_x0) p_b4
    refine ok_calR p_b4 ?_
    refine ok_chk ((congrFun kE_S3 x0).trans r_x0) ?_
    obtain ⟨b5, p_b5, k_b5⟩ := T_11_9 T_S3 ((congrFun kE_S3 x0).trans r_x0)
    refine ok_calR p_b5 ?_
    refine ok_chk k_b4 ?_
    obtain ⟨⟨r6, S6⟩, h_r6, T_S6, A_S6, -⟩ := t_f_X1_standAt (x0 := b4) (x1 := x1) (x2 := b5) (SZ := S3) T_S3 (a7_0 S3) k_b4 k_b5
    replace T_S6 : ZT S6 := T_S6
    replace A_S6 : A7 S3 S6 := A_S6
    refine ok_calR h_r6 ?_
    have q_S6 := fq_X1_standAt h_r6
    have kE_S6 : zK S6 = zK S3 := q_S6.2.2.1
    have nE_S6 : zN S6 = zN S3 := q_S6.2.2.2.1
    have R_S6 : RP SZ S6 := rp_f R_S3 T_S3 q_S6 (fz_X1_standAt h_r6) (by decide) A_S6
    refine ok_chk ⟨q_S6.1, q_S6.2.1⟩ ?_
    exact ok_ret ⟨T_S6, (rq_n T_S6 R_S6), trivial⟩
theorem t_d_X11_go {SZ S : ZS} {x0 : Nat} {x1 : Int32} (hT : ZT S) (hR : RP SZ S) (r_x0 : zK S x0 = 11) : Ok (d_X11_go x0 x1 S) (fun o => ZT o.2 ∧ RQ SZ o.1.1 o.2 ∧ True) := t_d_X11_go_0 hT hR r_x0
end
section
/-- room and trees alone -/
noncomputable def RU (S S' : ZS) : Prop := RM S S' ∧ (TZ S → TZ S')
theorem ru_f {W V : List (Nat × Nat)} {B : List Nat} {SZ S S' : ZS} (hR : RU SZ S) (hT : ZT S) (q : EqT S S') (f : FrZ W V B S S') (hv : (6, 0) ∉ V ∧ tdis W V B) : RU SZ S' := ⟨rm_f hR.1 hT q f hv.1, fun t => tz_fr hT f hv.2 (hR.2 t)⟩
theorem ru_I {j a k : Nat} {v : Int32} {SZ S S' : ZS} (hR : RU SZ S) (hT : ZT S) (hk : zK S a = k) (e : S' = zsI S j a v) (hd : tdis [(k, j)] [] []) : RU SZ S' := ⟨rm_I hR.1 e, fun t => tz_fr hT (frz_I frz_0 hk e (List.mem_singleton.2 rfl)) hd (hR.2 t)⟩
/-- the class between two calls -/
noncomputable def CI (S : ZS) (x0 : Nat) : Prop := ZT S ∧ zK S x0 = 11 ∧ TZ S ∧ ∃ g g' rd, zP S 7 x0 = some g ∧ zP S 5 x0 = some rd ∧ zP S 3 rd = some g' ∧ g ≠ g' ∧ (zI S 8 x0).toInt ≤ (cn S g : Int)
/-- room: what a call may take -/
noncomputable def RW (S S' : ZS) : Prop := zu S' + 2 * PS S' ≤ zu S + 2 * PS S + 6 ∧ 8 * zt S' + PS S' ≤ 8 * zt S + PS S + 8 ∧ zu S ≤ zu S' ∧ zt S ≤ zt S'
theorem cw_m {S S' : ZS} (h : RM S S') : RW S S' := ⟨by have := h.1; omega, by have := h.2.1; omega, h.2.2.1, h.2.2.2⟩
theorem ps_Q {S : ZS} (hT : ZT S) : PS (zsQ S) = PS S := by
  have h0 : pot (zsQ S) (zt S) = 0 := by
    have hq : 18 ≤ zK S (zt S) := hT.2.2.2.2.1 _ (Nat.le_refl _)
    have hk : zK (zsQ S) (zt S) = zK S (zt S) := rfl
    unfold pot
    rw [hk, if_neg (by omega), if_neg (by omega), if_neg (by omega)]
  have e : PS (zsQ S) = sumN (pot (zsQ S)) (zt S) + pot (zsQ S) (zt S) := rfl
  have e2 : sumN (pot (zsQ S)) (zt S) = PS S := rfl
  rw [e, h0, e2, Nat.add_zero]
theorem cw_q {S S' : ZS} (hT : ZT S') (h : RM S S') : RW S (zsQ S') := by
  have e := ps_Q hT
  have e1 : zu (zsQ S') = zu S' + 6 := rfl
  have e2 : zt (zsQ S') = zt S' + 1 := rfl
  exact ⟨by rw [e, e1]; have := h.1; omega, by rw [e, e2]; have := h.2.1; omega, by rw [e1]; have := h.2.2.1; omega, by rw [e2]; have := h.2.2.2; omega⟩
theorem tz_Q {S : ZS} (h : TZ S) : TZ (zsQ S) := h
theorem ci_Q {S : ZS} {x0 : Nat} (h : CI S x0) : CI (zsQ S) x0 := ⟨zt_Q h.1, h.2.1, h.2.2.1, h.2.2.2⟩
theorem ci_fr {W V : List (Nat × Nat)} {B : List Nat} {S S' : ZS} {x0 : Nat} (h : CI S x0) (T' : ZT S') (Z' : TZ S') (f : FrZ W V B S S') (hd : (1, 3) ∉ W ∧ (11, 8) ∉ W ∧ (11, 5) ∉ V ∧ (11, 7) ∉ V ∧ (2, 3) ∉ V) : CI S' x0 := by
  obtain ⟨hT, kx, hZ, g, g', rd, p7, p5, p3, hne, hcur⟩ := h
  have ff := (f hT.2.2.2.2.1).2.2
  have fx := ff x0 (lt18 kx (by decide))
  rw [kx] at fx
  obtain ⟨b5, q5, k5⟩ := T_11_5 hT kx
  rw [p5] at q5
  cases q5
  obtain ⟨b7, q7, k7⟩ := T_11_7 hT kx
  rw [p7] at q7
  cases q7
  have fr := ff rd (lt18 k5 (by decide))
  rw [k5] at fr
  have fg := ff g (lt18 k7 (by decide))
  rw [k7] at fg
  refine ⟨T', fx.1, Z', g, g', rd, (fx.2.2.2.1 7 hd.2.2.2.1).trans p7, (fx.2.2.2.1 5 hd.2.2.1).trans p5, (fr.2.2.2.1 3 hd.2.2.2.2).trans p3, hne, ?_⟩
  rw [fx.2.2.1 8 hd.2.1]
  have : cn S' g = cn S g := by unfold cn; rw [fg.2.2.1 3 hd.1]
  rw [this]; exact hcur
/-- what a call that may throw leaves -/
noncomputable def RC (S : ZS) (x0 : Nat) (o : (Nat × Int32) × ZS) : Prop := (o.1.1 = 0 ∧ CI o.2 x0 ∧ RW S o.2 ∧ XR S o.2) ∨ (o.1.1 ≠ 0 ∧ ∃ S1, o.2 = zsQ S1 ∧ CI S1 x0 ∧ RW S o.2 ∧ XR S S1)
theorem rc_n {S S' : ZS} {x0 : Nat} {v : Int32} (h : CI S' x0) (hR : RM S S') (hx : XR S S') : RC S x0 ((0, v), S') := Or.inl ⟨rfl, h, cw_m hR, hx⟩
theorem rc_q {S S' : ZS} {x0 k : Nat} {v : Int32} (hk : k ≠ 0) (h : CI S' x0) (hR : RM S S') (hx : XR S S') : RC S x0 ((k, v), zsQ S') := Or.inr ⟨hk, S', rfl, h, cw_q h.1 hR, hx⟩
/-- a call that leaves the games' trees, and where they stand, as they are -/
theorem ci_thr {W V : List (Nat × Nat)} {B : List Nat} {S : ZS} {x0 : Nat} {e : Option ((Nat × Int32) × ZS)} (h : CI S x0) (hq : Ok e (fun o => ZT o.2 ∧ RQ S o.1.1 o.2 ∧ True)) (f : ∀ o, e = some o → FrZ W V B S o.2) (hd : (1, 3) ∉ W ∧ (11, 8) ∉ W ∧ (11, 5) ∉ V ∧ (11, 7) ∉ V ∧ (2, 3) ∉ V) : Ok e (RC S x0) := by
  obtain ⟨⟨⟨k, v⟩, S'⟩, ho, T', R', -⟩ := hq
  replace R' : RQ S k S' := R'
  refine ⟨((k, v), S'), ho, ?_⟩
  have F : FrZ W V B S S' := f _ ho
  rcases R' with ⟨hk, T1, R1⟩ | ⟨hk, S1, T1, R1, e1⟩
  · subst hk
    exact rc_n (ci_fr h T1 (R1.2.1 h.2.2.1) F hd) R1.1 R1.2.2.2
  · subst e1
    have F1 : FrZ W V B S S1 := fun hF => by
      obtain ⟨a1, a2, a3⟩ := F hF
      refine ⟨T1.2.2.2.2.1, ?_, a3⟩
      have := R1.1.2.2.2
      exact this
    exact rc_q hk (ci_fr h T1 (R1.2.1 h.2.2.1) F1 hd) R1.1 R1.2.2.2
theorem ci_f {α : Type} {Q : α × ZS → Prop} {W V : List (Nat × Nat)} {B : List Nat} {S : ZS} {x0 : Nat} {e : Option (α × ZS)} (h : CI S x0) (hq : Ok e (fun o => ZT o.2 ∧ A7 S o.2 ∧ Q o)) (q : ∀ o, e = some o → EqT S o.2) (f : ∀ o, e = some o → FrZ W V B S o.2) (hd : ((1, 3) ∉ W ∧ (11, 8) ∉ W ∧ (11, 5) ∉ V ∧ (11, 7) ∉ V ∧ (2, 3) ∉ V) ∧ (6, 0) ∉ V ∧ tdis W V B) : Ok e (fun o => CI o.2 x0 ∧ RW S o.2 ∧ XR S o.2) := by
  obtain ⟨o, ho, T', A', -⟩ := hq
  have R := rm_f (rm_0 S) h.1 (q o ho) (f o ho) hd.2.1
  exact ⟨o, ho, ci_fr h T' (tz_fr h.1 (f o ho) hd.2.2 h.2.2.1) (f o ho) hd.1, cw_m R, A'.2⟩
theorem ci_ro {α : Type} {Q : α × ZS → Prop} {S : ZS} {x0 : Nat} {e : Option (α × ZS)} (h : CI S x0) (hq : Ok e (fun o => o.2 = S ∧ Q o)) : Ok e (fun o => CI o.2 x0 ∧ RW S o.2 ∧ XR S o.2) := by
  obtain ⟨o, ho, e1, -⟩ := hq
  exact ⟨o, ho, by rw [e1]; exact h, by rw [e1]; exact cw_m (rm_0 S), by rw [e1]; exact xr_0 S⟩
theorem ci_d {α : Type} {Q : α × ZS → Prop} {W V : List (Nat × Nat)} {B : List Nat} {S : ZS} {x0 : Nat} {e : Option (α × ZS)} (h : CI S x0) (hq : Ok e (fun o => ZT o.2 ∧ RP S o.2 ∧ Q o)) (f : ∀ o, e = some o → FrZ W V B S o.2) (hd : (1, 3) ∉ W ∧ (11, 8) ∉ W ∧ (11, 5) ∉ V ∧ (11, 7) ∉ V ∧ (2, 3) ∉ V) : Ok e (fun o => CI o.2 x0 ∧ RW S o.2 ∧ XR S o.2) := by
  obtain ⟨o, ho, T', R', -⟩ := hq
  exact ⟨o, ho, ci_fr h T' (R'.2.1 h.2.2.1) (f o ho) hd, cw_m R'.1, R'.2.2.2⟩
theorem ci_signs {S : ZS} {x0 : Nat} {x1 : Int32} (h : CI S x0) : Ok (d_X11_signs x0 x1 S) (RC S x0) := ci_thr h (t_d_X11_signs h.1 (rp_0 S) h.2.1) (fun _ ho => fz_X11_signs ho) (by decide)
theorem ci_node {S : ZS} {x0 : Nat} {x1 x2 : Int32} (h : CI S x0) : Ok (d_X11_node x0 x1 x2 S) (RC S x0) := ci_thr h (t_d_X11_node h.1 (rp_0 S) h.2.1) (fun _ ho => fz_X11_node ho) (by decide)
theorem ci_mark {S : ZS} {x0 : Nat} {x1 x2 : Int32} (h : CI S x0) : Ok (d_X11_mark x0 x1 x2 S) (RC S x0) := ci_thr h (t_d_X11_mark h.1 (rp_0 S) h.2.1) (fun _ ho => fz_X11_mark ho) (by decide)
theorem ci_remark {S : ZS} {x0 : Nat} {x1 x2 : Int32} (h : CI S x0) : Ok (d_X11_remark x0 x1 x2 S) (RC S x0) := ci_thr h (t_d_X11_remark h.1 (rp_0 S) h.2.1) (fun _ ho => fz_X11_remark ho) (by decide)
theorem ci_man {S : ZS} {x0 : Nat} {x1 : Int32} (h : CI S x0) : Ok (d_X11_man x0 x1 S) (RC S x0) := ci_thr h (t_d_X11_man h.1 (rp_0 S) h.2.1) (fun _ ho => fz_X11_man ho) (by decide)
theorem ci_addMark {S : ZS} {x0 : Nat} {x1 : Int32} (h : CI S x0) : Ok (d_X11_addMark x0 x1 S) (RC S x0) := ci_thr h (t_d_X11_addMark h.1 (rp_0 S) h.2.1) (fun _ ho => fz_X11_addMark ho) (by decide)
theorem ci_end {S : ZS} {x0 : Nat} {x1 : Int32} (h : CI S x0) : Ok (d_X11_end x0 x1 S) (RC S x0) := ci_thr h (t_d_X11_end h.1 (rp_0 S) h.2.1) (fun _ ho => fz_X11_end ho) (by decide)
theorem ci_tag {S : ZS} {x0 : Nat} {x1 x2 x3 : Int32} (h : CI S x0) : Ok (d_X11_tag x0 x1 x2 x3 S) (RC S x0) := ci_thr h (t_d_X11_tag h.1 (rp_0 S) h.2.1) (fun _ ho => fz_X11_tag ho) (by decide)
theorem ci_find {S : ZS} {x0 : Nat} (h : CI S x0) : Ok (d_X11_find x0 S) (fun o => CI o.2 x0 ∧ RW S o.2 ∧ XR S o.2) := ci_d h (t_d_X11_find h.1 (rp_0 S) h.2.1) (fun _ ho => fz_X11_find ho) (by decide)
theorem ci_go {S : ZS} {x0 : Nat} {x1 : Int32} (h : CI S x0) : Ok (d_X11_go x0 x1 S) (RC S x0) := by
  have h0 := h
  obtain ⟨hT, kx, hZ, g, g', rd, p7, p5, p3, hne, hcur⟩ := h
  obtain ⟨b7, q7, k7⟩ := T_11_7 hT kx
  rw [p7] at q7
  cases q7
  have hc := cn_le hT k7
  show Ok (d_X11_go_0 x0 x1 S) _
  unfold d_X11_go_0
  obtain ⟨y, h1, r1, r2⟩ := roz (t_f_X1_has (x1 := x1) hT k7)
  dsimp only at r1 r2
  refine ok_chk kx (ok_calR p7 (ok_chk k7 (ok_calR h1 (ok_chk ⟨rfl, rfl⟩ (ok_if (fun _ => ok_ret (rc_q (by decide) h0 (rm_0 S) (xr_0 S))) (fun c => ?_))))))
  have hy : y.toInt ≠ 0 := fun e => c (Int32.toInt_inj.1 e)
  have hb := r2 (by omega)
  refine ok_chk kx (ok_bnd (fun S3 e3 => ?_))
  have T3 : ZT S3 := e3.symm ▸ zt_I hT kx (by decide) (show (0 : Int) ≤ x1.toInt ∧ x1.toInt ≤ (300 : Int) by omega)
  have R3 : RM S S3 := rm_I (rm_0 S) e3
  have k3 : zK S3 x0 = 11 := by rw [e3]; exact kx
  have Z3 : TZ S3 := tz_fr (W := [(11, 8)]) (V := []) (B := []) hT (frz_I frz_0 kx e3 (List.mem_singleton.2 rfl)) (by decide) hZ
  have C3 : CI S3 x0 := by
    refine ⟨T3, k3, Z3, g, g', rd, by rw [e3]; exact p7, by rw [e3]; exact p5, by rw [e3]; exact p3, hne, ?_⟩
    have e8 : zI S3 8 x0 = x1 := by rw [e3]; exact zI_self _ _ _ _
    have ec : cn S3 g = cn S g := by unfold cn; rw [e3, zI_j (by decide)]
    rw [e8, ec]; omega
  have p73 : zP S3 7 x0 = some g := by rw [e3]; exact p7
  have k73 : zK S3 g = 1 := by rw [e3]; exact k7
  obtain ⟨b5, p55, k55⟩ := T_11_9 T3 k3
  obtain ⟨⟨y6, S6⟩, h6, T6, A6, -⟩ := t_f_X1_standAt (SZ := S3) (x0 := g) (x1 := x1) (x2 := b5) T3 (a7_0 S3) k73 k55
  replace T6 : ZT S6 := T6
  have q6 : EqT S3 S6 := fq_X1_standAt h6
  exact ok_chk k3 (ok_calR p73 (ok_chk k3 (ok_calR p55 (ok_chk k73 (ok_calR h6 (ok_chk ⟨q6.1, q6.2.1⟩ (ok_ret (rc_n (ci_fr C3 T6 (tz_fr T3 (fz_X1_standAt h6) (by decide) Z3) (fz_X1_standAt h6) (by decide)) (rm_t R3 (rm_f (rm_0 S3) T3 q6 (fz_X1_standAt h6) (by decide))) (xr_t (by rw [e3]; exact xr_I kx (by decide)) A6.2))))))))) 
theorem ci_read {S : ZS} {x0 : Nat} (h : CI S x0) : Ok (d_X11_read x0 S) (fun o => CI o.2 x0 ∧ RW S o.2 ∧ (XR S o.2 ∨ ∃ b, zP o.2 0 x0 = some b ∧ (zI o.2 1 b).toInt ≤ 0)) := by
  have hCI := h
  obtain ⟨hT, kx, hZ, g, g', rd, p7, p5, p3, hne, hcur⟩ := h
  obtain ⟨b5, q5, krd⟩ := T_11_5 hT kx
  rw [p5] at q5
  cases q5
  obtain ⟨b7, q7, k7⟩ := T_11_7 hT kx
  rw [p7] at q7
  cases q7
  obtain ⟨b2, p0, k2, c2⟩ := T_11_0 hT kx
  show Ok (d_X11_read_0 x0 S) _
  unfold d_X11_read_0
  obtain ⟨⟨y3, S3⟩, h3, T3, A3, -⟩ := t_f_X2_begin (SZ := S) (x0 := rd) (x1 := b2) hT (a7_0 S) krd k2 c2
  replace T3 : ZT S3 := T3
  have q3 : EqT S S3 := fq_X2_begin h3
  have R3 : RP S S3 := rp_begin (rp_0 S) hT krd k2 c2 A3 h3
  have O3 : OG rd S S3 := og_begin hT krd k2 c2 h3
  have Z3 : TZ S3 := R3.2.1 hZ
  -- what stays at the object itself
  have stay : ∀ {W V : List (Nat × Nat)} {B : List Nat} {S1 S2 : ZS}, ZT S1 → zK S1 x0 = 11 → zP S1 7 x0 = some g → zP S1 5 x0 = some rd → zI S1 8 x0 = zI S 8 x0 → FrZ W V B S1 S2 → ((11, 8) ∉ W ∧ (11, 5) ∉ V ∧ (11, 7) ∉ V) → zK S2 x0 = 11 ∧ zP S2 7 x0 = some g ∧ zP S2 5 x0 = some rd ∧ zI S2 8 x0 = zI S 8 x0 := by
    intro W V B S1 S2 T1 k1 a7 a5 a8 f hd
    have fx := (f T1.2.2.2.2.1).2.2 x0 (lt18 k1 (by decide))
    rw [k1] at fx
    exact ⟨fx.1, (fx.2.2.2.1 7 hd.2.2).trans a7, (fx.2.2.2.1 5 hd.2.1).trans a5, (fx.2.2.1 8 hd.1).trans a8⟩
  have fail : ∀ S', ZT S' → RT S S' → OG rd S S' → zK S' x0 = 11 ∧ zP S' 7 x0 = some g ∧ zP S' 5 x0 = some rd ∧ zI S' 8 x0 = zI S 8 x0 → Ok (d_X11_read_41 x0 S') (fun o => CI o.2 x0 ∧ RW S o.2 ∧ (XR S o.2 ∨ ∃ b, zP o.2 0 x0 = some b ∧ (zI o.2 1 b).toInt ≤ 0)) := by
    intro S' T' R' O' ⟨k', a7, a5, a8⟩
    obtain ⟨o1, o2, o3⟩ := O' krd
    obtain ⟨o4, o5⟩ := o3 g g' p3 k7 hne
    unfold d_X11_read_41
    obtain ⟨y, hy, -⟩ := roz (t_f_X2_fault T' o1)
    refine ok_chk k' (ok_calR a5 (ok_chk o1 (ok_calR hy (ok_chk ⟨rfl, rfl⟩ (ok_ret ⟨⟨T', k', R'.2.1 hZ, g, g', rd, a7, a5, o2.trans p3, hne, ?_⟩, cw_m R'.1, Or.inl R'.2.2⟩)))))
    show (zI S' 8 x0).toInt ≤ (cn S' g : Int)
    have : cn S' g = cn S g := by unfold cn; rw [o5]
    rw [this, a8]; exact hcur
  have st3 := stay hT kx p7 p5 rfl (fz_X2_begin h3) (by decide)
  obtain ⟨m3, m37, m35, m38⟩ := st3
  have krd3 : zK S3 rd = 2 := (O3 krd).1
  refine ok_chk kx (ok_calR p5 (ok_chk kx (ok_calR p0 (ok_chk krd (ok_calR h3 (ok_chk ⟨q3.1, q3.2.1⟩ (ok_chk m3 (ok_calR m35 (ok_chk krd3 ?_)))))))))
  obtain ⟨⟨y7, S7⟩, h7, T7, R7, -⟩ := t_d_X2_readHead (SZ := S3) T3 (rp_0 S3) krd3
  replace T7 : ZT S7 := T7
  replace R7 : RP S3 S7 := R7
  have O7 : OG rd S S7 := og_t O3 (og_fr T3 (fz_X2_readHead h7) (by decide))
  have RT7 : RT S S7 := rt_of (rp_t R3 R7)
  obtain ⟨m7, m77, m75, m78⟩ := stay T3 m3 m37 m35 m38 (fz_X2_readHead h7) (by decide)
  have krd7 : zK S7 rd = 2 := (O7 krd).1
  refine ok_cal2R h7 (ok_if (fun _ => fail S7 T7 RT7 O7 ⟨m7, m77, m75, m78⟩) (fun _ => ?_))
  obtain ⟨⟨y13, S13⟩, h13, T13, R13, b13, a13⟩ := t_d_X2_readMoves (SZ := S7) T7 (rg_0 rd S7) krd7 (RT7.2.1 hZ)
  replace T13 : ZT S13 := T13
  replace R13 : RG rd S7 S13 := R13
  replace b13 : (0 : Int) ≤ y13.toInt ∧ y13.toInt ≤ (1 : Int) := b13
  replace a13 : y13.toInt = 1 → (zI S13 4 rd).toInt ≤ 90000 := a13
  have O13 : OG rd S S13 := og_t O7 R13.2
  have RT13 : RT S S13 := rt_t RT7 R13.1
  obtain ⟨m13, m137, m135, m138⟩ := stay T7 m7 m77 m75 m78 (fz_X2_readMoves h13) (by decide)
  have krd13 : zK S13 rd = 2 := (O13 krd).1
  refine ok_chk m7 (ok_calR m75 (ok_chk krd7 (ok_cal2R h13 (ok_if (fun _ => fail S13 T13 RT13 O13 ⟨m13, m137, m135, m138⟩) (fun c13 => ?_)))))
  have hy13 : y13.toInt ≠ 0 := fun h => c13 (Int32.toInt_inj.1 h)
  obtain ⟨⟨y19, S19⟩, h19, T19, R19, -⟩ := t_d_X2_readEnd (SZ := S13) T13 (rp_0 S13) krd13 (a13 (by omega))
  replace T19 : ZT S19 := T19
  replace R19 : RP S13 S19 := R19
  have O19 : OG rd S S19 := og_t O13 (og_fr T13 (fz_X2_readEnd h19) (by decide))
  have RT19 : RT S S19 := rt_t RT13 (rt_of R19)
  obtain ⟨m19, m197, m195, m198⟩ := stay T13 m13 m137 m135 m138 (fz_X2_readEnd h19) (by decide)
  have krd19 : zK S19 rd = 2 := (O19 krd).1
  refine ok_chk m13 (ok_calR m135 (ok_chk krd13 (ok_cal2R h19 (ok_if (fun _ => fail S19 T19 RT19 O19 ⟨m19, m197, m195, m198⟩) (fun _ => ?_)))))
  have kg19 : zK S19 g = 1 := ((O19 krd).2.2 g g' p3 k7 hne).1
  have p319 : zP S19 3 rd = some g' := (O19 krd).2.1.trans p3
  have hg3 : 4 ≤ rc g := M_11_7 T19 m19 m197
  obtain ⟨⟨v24, S24⟩, h24, T24, A24, k24, c24⟩ := t_f_X2_exchange (SZ := S19) (x0 := rd) (x1 := g) T19 (a7_0 S19) krd19 kg19 hg3
  replace T24 : ZT S24 := T24
  replace k24 : zK S24 v24 = 1 := k24
  replace c24 : 4 ≤ rc v24 := c24
  have q24 : EqT S19 S24 := fq_X2_exchange h24
  have x24 : v24 = g' ∧ S24 = zsP S19 3 rd (some g) := by
    have hf : f_X2_exchange_0 rd g S19 = some (v24, S24) := h24
    unfold f_X2_exchange_0 at hf
    obtain ⟨-, hf⟩ := m_chkE hf
    obtain ⟨b1, pb1, hf⟩ := m_calE hf
    obtain ⟨-, hf⟩ := m_chkE hf
    obtain ⟨S2, e2, hf⟩ := m_bndE hf
    rw [p319] at pb1
    cases hf
    exact ⟨(Option.some.inj pb1).symm, e2⟩
  obtain ⟨ev, e24⟩ := x24
  have R24 : RT S S24 := rt_P RT19 T19 krd19 e24 (by decide)
  have m24 : zK S24 x0 = 11 := by rw [e24]; exact m19
  refine ok_chk m19 (ok_calR m195 (ok_chk m19 (ok_calR m197 (ok_chk krd19 (ok_calR h24 (ok_chk ⟨q24.1, q24.2.1⟩ (ok_chk m24 (ok_bnd (fun S25 e25 => ?_)))))))))
  have T25 : ZT S25 := e25.symm ▸ zt_P T24 m24 (by decide) (Or.inr ⟨k24, rfl⟩) ⟨c24, rc_le _⟩
  have R25 : RT S S25 := rt_P R24 T24 m24 e25 (by decide)
  have m25 : zK S25 x0 = 11 := by rw [e25]; exact m24
  obtain ⟨b26, p26, k26, c26⟩ := T_11_0 T25 m25
  obtain ⟨y27, S27, h27, T27, -, -⟩ := keep_x (x0 := b26) (x1 := 0) T25 k26
  have q27 : EqT S25 S27 := fq_X6_keep h27
  have R27 : RU S S27 := ru_f ⟨R25.1, R25.2.1⟩ T25 q27 (fz_X6_keep h27) (by decide)
  have m27 : zK S27 x0 = 11 := by rw [q27.2.2.1]; exact m25
  refine ok_chk m25 (ok_calR p26 (ok_chk k26 (ok_calR h27 (ok_chk ⟨q27.1, q27.2.1⟩ (ok_chk m27 (ok_bnd (fun S28 e28 => ?_)))))))
  have T28 : ZT S28 := e28.symm ▸ zt_I T27 m27 (by decide) (by decide)
  have R28 : RU S S28 := ru_I R27 T27 m27 e28 (by decide)
  have m28 : zK S28 x0 = 11 := by rw [e28]; exact m27
  obtain ⟨b29, p29, k29⟩ := T_11_7 T28 m28
  obtain ⟨b30, p30, k30⟩ := T_11_9 T28 m28
  obtain ⟨⟨y31, S31⟩, h31, T31, A31, -⟩ := t_f_X1_standAt (SZ := S28) (x0 := b29) (x1 := 0) (x2 := b30) T28 (a7_0 S28) k29 k30
  replace T31 : ZT S31 := T31
  have q31 : EqT S28 S31 := fq_X1_standAt h31
  have R31 : RU S S31 := ru_f R28 T28 q31 (fz_X1_standAt h31) (by decide)
  refine ok_chk m28 (ok_calR p29 (ok_chk m28 (ok_calR p30 (ok_chk k29 (ok_calR h31 (ok_chk ⟨q31.1, q31.2.1⟩ (ok_ret ⟨?_, cw_m R31.1, Or.inr ⟨b26, ?_, ?_⟩⟩)))))))
  rotate_left
  · have fx := ((fz_X1_standAt h31) T28.2.2.2.2.1).2.2 x0 (lt18 m28 (by decide))
    rw [m28] at fx
    refine (fx.2.2.2.1 0 (by decide)).trans ?_
    rw [e28]
    show zP S27 0 x0 = _
    rw [keep_P h27]
    exact p26
  · have k28 : zK S28 b26 = 6 := by
      rw [e28]
      show zK S27 b26 = 6
      rw [q27.2.2.1]
      exact k26
    have fb := ((fz_X1_standAt h31) T28.2.2.2.2.1).2.2 b26 (lt18 k28 (by decide))
    rw [k28] at fb
    show (zI S31 1 b26).toInt ≤ 0
    rw [fb.2.2.1 1 (by decide), e28, zI_j (by decide)]
    show (zI S27 1 b26).toInt ≤ 0
    have h9 := keep_len k26 h27 (by decide)
    have z9 : (0 : Int32).toInt = 0 := rfl
    omega
  -- where all stands now
  have P27 : zP S27 = zP S25 := keep_P h27
  have pe7 : zP S28 7 x0 = some g' := by
    rw [e28]; show zP S27 7 x0 = _
    rw [P27, e25, zP_s, ev]
  have pe5 : zP S28 5 x0 = some rd := by
    rw [e28]; show zP S27 5 x0 = _
    rw [P27, e25, zP_j (by decide), e24, zP_j (by decide)]; exact m195
  have pe3 : zP S28 3 rd = some g := by
    rw [e28]; show zP S27 3 rd = _
    rw [P27, e25, zP_j (by decide), e24]; exact zP_s
  have krd28 : zK S28 rd = 2 := by
    rw [e28]; show zK S27 rd = 2
    rw [q27.2.2.1, e25]; show zK S24 rd = 2
    rw [e24]; exact krd19
  have ff := ((fz_X1_standAt h31) T28.2.2.2.2.1).2.2
  have fx := ff x0 (lt18 m28 (by decide))
  rw [m28] at fx
  have fr := ff rd (lt18 krd28 (by decide))
  rw [krd28] at fr
  refine ⟨T31, fx.1, R31.2 hZ, g', g, rd, (fx.2.2.2.1 7 (by decide)).trans pe7, (fx.2.2.2.1 5 (by decide)).trans pe5, (fr.2.2.2.1 3 (by decide)).trans pe3, fun e => hne e.symm, ?_⟩
  show (zI S31 8 x0).toInt ≤ _
  rw [fx.2.2.1 8 (by decide), e28, zI_self]
  have z : (0 : Int32).toInt = 0 := rfl
  omega
end
section
theorem px_fr {W V : List (Nat × Nat)} {B : List Nat} {S S' : ZS} {x k : Nat} (hT : ZT S) (hk : zK S x = k) (h18 : k < 18) (f : FrZ W V B S S') : zK S' x = k ∧ (∀ j, (k, j) ∉ V → zP S' j x = zP S j x) ∧ ∀ j, (k, j) ∉ W → zI S' j x = zI S j x := by
  have fx := (f hT.2.2.2.2.1).2.2 x (lt18 hk h18)
  rw [hk] at fx
  exact ⟨fx.1, fx.2.2.2.1, fx.2.2.1⟩
theorem cw_12 {S S' : ZS} {g r b : Nat} {x2 y : Int32} (hT : ZT S) (hk : zK S g = 1) (hr : zP S 1 g = some r) (hb : zP S 2 g = some b) : ∀ (n : Nat) (l : List Nat) (x3 x4 : Int32), chn (nF S 3 r b) l x3.toInt → (∀ k ∈ l, 1 ≤ k ∧ k ≤ cn S g) → f_X1_childWith_12 n g x2 x3 x4 S = some (y, S') → y.toInt = -1 ∨ (1 ≤ y.toInt ∧ y.toInt ≤ (cn S g : Int))
  | 0, _, _, _, _, _, hf => by cases hf
  | n + 1, l, x3, x4, hc, hm, hf => by
    have ends : x3.toInt = -1 ∨ (1 ≤ x3.toInt ∧ x3.toInt ≤ (cn S g : Int)) := by
      cases l with
      | nil => exact Or.inl hc
      | cons k l =>
        have h1 : x3.toInt = (k : Int) := hc.1
        have h2 := hm k List.mem_cons_self
        omega
    have hf : f_X1_childWith_12s (f_X1_childWith_12 n) g x2 x3 x4 S = some (y, S') := hf
    unfold f_X1_childWith_12s at hf
    rcases m_ifE hf with ⟨-, hf⟩ | ⟨-, hf⟩
    · cases hf; exact ends
    · rcases m_ifE hf with ⟨-, hf⟩ | ⟨c, hf⟩
      · cases hf; exact ends
      · obtain ⟨-, hf⟩ := m_chkE hf
        obtain ⟨⟨d, Sx⟩, h1, hf⟩ := m_calE hf
        obtain ⟨s1, k1, a1⟩ := ok_of (t_f_X1_at hT hk) h1
        dsimp only at s1 k1 a1 hf
        rw [s1] at hf
        obtain ⟨-, hf⟩ := m_chkE hf
        rcases m_ifE hf with ⟨-, hf⟩ | ⟨-, hf⟩
        · cases hf; exact ends
        · obtain ⟨-, hf⟩ := m_chkE hf
          obtain ⟨⟨d', Sy⟩, h2, hf⟩ := m_calE hf
          rw [h1] at h2
          have e2 : (d, Sx) = (d', Sy) := Option.some.inj h2
          have e3 : d = d' := congrArg Prod.fst e2
          have e4 : Sx = Sy := congrArg Prod.snd e2
          dsimp only at hf
          rw [← e3, ← e4, s1] at hf
          obtain ⟨-, hf⟩ := m_chkE hf
          obtain ⟨v3, e5, hf⟩ := m_bndE hf
          cases l with
          | nil =>
            have h3 : x3.toInt = -1 := hc
            exact absurd (Int32.toInt_inj.1 (show x3.toInt = (-1 : Int32).toInt by rw [h3]; rfl)) c
          | cons k l =>
            have hc1 : x3.toInt = (k : Int) := hc.1
            have hk1 := hm k List.mem_cons_self
            have ed : d = nk S r b k := by rw [a1, nd_nk hT hk hr hb (by omega) (by omega), hc1]; rfl
            have hc2 : chn (nF S 3 r b) l (zI S 3 d).toInt := by
              have : nF S 3 r b k = (zI S 3 d).toInt := by unfold nF; rw [← ed]
              rw [← this]; exact hc.2
            exact cw_12 hT hk hr hb n l (zI S 3 d) v3 hc2 (fun j hj => hm j (List.mem_cons_of_mem _ hj)) hf
theorem cw_v {S S' : ZS} {g : Nat} {x1 x2 y : Int32} (hT : ZT S) (hZ : TZ S) (hg : 4 ≤ rc g) (h0 : 0 ≤ x1.toInt) (h1 : x1.toInt ≤ (cn S g : Int)) (hf : f_X1_childWith g x1 x2 S = some (y, S')) : y.toInt = -1 ∨ (1 ≤ y.toInt ∧ y.toInt ≤ (cn S g : Int)) := by
  obtain ⟨r, b, g', r', b', hgg, hrr, hbb, hX, ⟨hn, hbt, L, hl⟩, hY', -⟩ := tz_g hg hZ
  have hk : zK S g = 1 := hX.1.1
  have hr : zP S 1 g = some r := hX.2.1.1
  have hb : zP S 2 g = some b := hX.2.2.1.1
  have hf : f_X1_childWith_0 g x1 x2 S = some (y, S') := hf
  unfold f_X1_childWith_0 at hf
  obtain ⟨-, hf⟩ := m_chkE hf
  obtain ⟨⟨d, Sx⟩, h2, hf⟩ := m_calE hf
  obtain ⟨s1, k1, a1⟩ := ok_of (t_f_X1_at hT hk) h2
  dsimp only at s1 k1 a1 hf
  rw [s1] at hf
  obtain ⟨-, hf⟩ := m_chkE hf
  have ed : d = nk S r b x1.toInt.toNat := by rw [a1, nd_nk hT hk hr hb h0 h1]
  obtain ⟨l1, l2, l3⟩ := hl x1.toInt.toNat (by omega)
  have hch : chn (nF S 3 r b) (L x1.toInt.toNat) (zI S 2 d).toInt := by
    have : nF S 2 r b x1.toInt.toNat = (zI S 2 d).toInt := by unfold nF; rw [← ed]
    rw [← this]; exact l1
  exact cw_12 hT hk hr hb mFuel (L x1.toInt.toNat) (zI S 2 d) 0 hch (fun k hk2 => ⟨((l3 k).1 hk2).1, ((l3 k).1 hk2).2.1⟩) hf
theorem c_95 {S S' : ZS} {x0 g g' rd : Nat} {x1 v : Int32} (hT : ZT S') (kx : zK S' x0 = 11) (hZ : TZ S') (p7 : zP S' 7 x0 = some g) (p5 : zP S' 5 x0 = some rd) (p3 : zP S' 3 rd = some g') (hne : g ≠ g') (h0 : 0 ≤ v.toInt) (h1 : v.toInt ≤ (cn S' g : Int)) (hR : RM S S') (hx : XR S S') : Ok (d_X11_add_95 x0 x1 v S') (RC S x0) := by
  obtain ⟨b7, q7, k7⟩ := T_11_7 hT kx
  rw [p7] at q7
  cases q7
  have hc := cn_le hT k7
  unfold d_X11_add_95
  refine ok_chk kx (ok_bnd (fun S1 e1 => ?_))
  have T1 : ZT S1 := e1.symm ▸ zt_I hT kx (by decide) (show (0 : Int) ≤ v.toInt ∧ v.toInt ≤ (300 : Int) by omega)
  have k1 : zK S1 x0 = 11 := by rw [e1]; exact kx
  have Z1 : TZ S1 := tz_fr (W := [(11, 8)]) (V := []) (B := []) hT (frz_I frz_0 kx e1 (List.mem_singleton.2 rfl)) (by decide) hZ
  have C1 : CI S1 x0 := by
    refine ⟨T1, k1, Z1, g, g', rd, by rw [e1]; exact p7, by rw [e1]; exact p5, by rw [e1]; exact p3, hne, ?_⟩
    have e8 : zI S1 8 x0 = v := by rw [e1]; exact zI_self _ _ _ _
    have ec : cn S1 g = cn S' g := by
      unfold cn
      rw [e1, zI_j (by decide)]
    rw [e8, ec]; exact h1
  obtain ⟨b2, p2, k2⟩ := T_11_9 T1 k1
  obtain ⟨⟨y3, S3⟩, h3, T3, A3, -⟩ := t_f_X0_play (SZ := S1) (x0 := b2) (x1 := x1) T1 (a7_0 S1) k2
  replace T3 : ZT S3 := T3
  have q3 : EqT S1 S3 := fq_X0_play h3
  refine ok_chk k1 (ok_calR p2 (ok_chk k2 (ok_calR h3 (ok_chk ⟨q3.1, q3.2.1⟩ (ok_ret (rc_n (ci_fr C1 T3 (tz_fr T1 (fz_X0_play h3) (by decide) Z1) (fz_X0_play h3) (by decide)) (rm_t (rm_I hR e1) (rm_f (rm_0 S1) T1 q3 (fz_X0_play h3) (by decide))) (xr_t (xr_t hx (by rw [e1]; exact xr_I kx (by decide))) A3.2)))))))
theorem ci_add {S : ZS} {x0 : Nat} {x1 : Int32} (h : CI S x0) : Ok (d_X11_add x0 x1 S) (RC S x0) := by
  have hCI := h
  have hT := h.1
  have kx := h.2.1
  obtain ⟨b1, p1, k1⟩ := T_11_2 hT kx
  obtain ⟨b2, p2, k2⟩ := T_11_9 hT kx
  show Ok (d_X11_add_0 x0 x1 S) _
  unfold d_X11_add_0
  obtain ⟨⟨y3, S3⟩, h3, T3, A3, -⟩ := t_f_X7_isLegal (SZ := S) (x0 := b1) (x1 := b2) (x2 := x1) hT (a7_0 S) k1 k2
  replace T3 : ZT S3 := T3
  have q3 : EqT S S3 := fq_X7_isLegal h3
  have R3 : RM S S3 := rm_f (rm_0 S) hT q3 (fz_X7_isLegal h3) (by decide)
  have C3 : CI S3 x0 := ci_fr hCI T3 (tz_fr hT (fz_X7_isLegal h3) (by decide) h.2.2.1) (fz_X7_isLegal h3) (by decide)
  refine ok_chk kx (ok_calR p1 (ok_chk kx (ok_calR p2 (ok_chk k1 (ok_calR h3 (ok_chk ⟨q3.1, q3.2.1⟩ (ok_if (fun _ => ok_ret (rc_q (by decide) C3 R3 A3.2)) (fun _ => ?_))))))))
  have C3' := C3
  obtain ⟨-, kx3, Z3, g, g', rd, p7, p5, p3, hne, hcur⟩ := C3'
  obtain ⟨b7, q7, k7⟩ := T_11_7 T3 kx3
  rw [p7] at q7
  cases q7
  have hg3 : 4 ≤ rc g := M_11_7 T3 kx3 p7
  have j8 := J_11_8 T3 kx3
  have hc := cn_le T3 k7
  obtain ⟨y5, h5, -⟩ := roz (t_f_X1_childWith (x1 := zI S3 8 x0) (x2 := x1) T3 k7)
  have v5 := cw_v T3 Z3 hg3 j8.1 hcur h5
  refine ok_chk kx3 (ok_calR p7 (ok_chk kx3 (ok_chk k7 (ok_calR h5 (ok_chk ⟨rfl, rfl⟩ (ok_if (fun _ => ?_) (fun c5 => ?_)))))))
  · have z3 : (300 : Int32).toInt = 300 := rfl
    refine ok_chk kx3 (ok_calR p7 (ok_chk k7 (ok_if (fun _ => ok_ret (rc_q (by decide) C3 R3 A3.2)) (fun c6 => ?_))))
    replace c6 := ti_leN (a := (300 : Int32)) (b := zI S3 3 g) c6 rfl rfl
    obtain ⟨y8, h8, -⟩ := roz (t_f_X1_deepOfNext (x1 := zI S3 8 x0) T3 k7)
    refine ok_chk kx3 (ok_calR p7 (ok_chk kx3 (ok_chk k7 (ok_calR h8 (ok_chk ⟨rfl, rfl⟩ (ok_if (fun _ => ?_) (fun _ => ok_ret (rc_q (by decide) C3 R3 A3.2))))))))
    obtain ⟨⟨y11, S12⟩, h11, T12, R12, G12⟩ := t_d_X1_grow (SZ := S3) (x0 := g) (x1 := zI S3 8 x0) (x2 := x1) T3 (rp_0 S3) k7 Z3 hg3 ⟨j8.1, hcur⟩
    replace T12 : ZT S12 := T12
    replace R12 : RP S3 S12 := R12
    refine ok_chk kx3 (ok_calR p7 (ok_chk kx3 (ok_chk k7 (ok_cal2R h11 ?_))))
    rcases G12 with ⟨-, -, h300⟩ | ⟨g1, g2, g3, g4, g5, g6⟩
    · exfalso; omega
    · replace g1 : y11.toInt = (cn S3 g : Int) + 1 := g1
      replace g2 : cn S12 g = cn S3 g + 1 := g2
      obtain ⟨b5, q5, krd⟩ := T_11_5 T3 kx3
      rw [p5] at q5
      cases q5
      have kx12 : zK S12 x0 = 11 := (px_fr T3 kx3 (by decide) (fz_X1_grow h11)).1
      exact c_95 T12 kx12 (R12.2.1 Z3) ((g6 x0 7 (lt18 kx3 (by decide))).trans p7) ((g6 x0 5 (lt18 kx3 (by decide))).trans p5) ((g6 rd 3 (lt18 krd (by decide))).trans p3) hne (by omega) (by omega) (rm_t R3 R12.1) (xr_t A3.2 R12.2.2.2)
  · have n5 : y5.toInt ≠ -1 := fun e => c5 (Int32.toInt_inj.1 e)
    exact c_95 T3 kx3 Z3 p7 p5 p3 hne (show 0 ≤ y5.toInt by omega) (show y5.toInt ≤ (cn S3 g : Int) by omega) R3 A3.2
theorem ci_lead {S : ZS} {x0 : Nat} (h : CI S x0) : Ok (d_X11_lead x0 S) (RC S x0) := by
  have hCI := h
  obtain ⟨hT, kx, hZ, g, g', rd, p7, p5, p3, hne, hcur⟩ := h
  obtain ⟨b7, q7, k7⟩ := T_11_7 hT kx
  rw [p7] at q7
  cases q7
  have hg3 : 4 ≤ rc g := M_11_7 hT kx p7
  have j8 := J_11_8 hT kx
  have hc := cn_le hT k7
  have z0 : (0 : Int32).toInt = 0 := rfl
  show Ok (d_X11_lead_0 x0 S) _
  unfold d_X11_lead_0
  refine ok_chk kx (ok_if (fun _ => ok_ret (rc_q (by decide) hCI (rm_0 S) (xr_0 S))) (fun c0 => ?_))
  have n0 : (zI S 8 x0).toInt ≠ 0 := fun e => c0 (Int32.toInt_inj.1 e)
  obtain ⟨y2, h2, -⟩ := roz (t_f_X1_goesOn (x1 := zI S 8 x0) hT k7)
  refine ok_chk kx (ok_calR p7 (ok_chk kx (ok_chk k7 (ok_calR h2 (ok_chk ⟨rfl, rfl⟩ (ok_if (fun c2 => ?_) (fun _ => ok_chk (by decide) (ok_ret (rc_n hCI (rm_0 S) (xr_0 S))))))))))
  have c2' : y2 = 0 := c2
  have gv : zI S 2 (nd S g (zI S 0 (nd S g (zI S 8 x0)))) ≠ zI S 8 x0 := by
    rcases goes_v hT k7 h2 with ⟨-, e⟩ | ⟨e, -⟩
    · rw [c2'] at e; exact absurd e (by decide)
    · exact e
  obtain ⟨⟨y4, S4⟩, h4, T4, A4, -⟩ := t_f_X1_mayLead (SZ := S) (x0 := g) (x1 := zI S 8 x0) hT (a7_0 S) k7
  replace T4 : ZT S4 := T4
  have q4 : EqT S S4 := fq_X1_mayLead h4
  have R4 : RM S S4 := rm_f (rm_0 S) hT q4 (fz_X1_mayLead h4) (by decide)
  have C4 : CI S4 x0 := ci_fr hCI T4 (tz_fr hT (fz_X1_mayLead h4) (by decide) hZ) (fz_X1_mayLead h4) (by decide)
  refine ok_chk kx (ok_calR p7 (ok_chk kx (ok_chk k7 (ok_calR h4 (ok_chk ⟨q4.1, q4.2.1⟩ (ok_if (fun _ => ok_ret (rc_q (by decide) C4 R4 A4.2)) (fun _ => ?_)))))))
  obtain ⟨r, b, g2, r', b', hgg, hrr, hbb, hX, hY, hY', back⟩ := tz_g hg3 hZ
  have hX0 := hX
  obtain ⟨⟨a1, a2⟩, ⟨b1, b2⟩, ⟨c1, c2⟩, ⟨d1, d2⟩, ⟨e1, e2⟩, f, k⟩ := hX0
  have ff := ((fz_X1_mayLead h4) hT.2.2.2.2.1).2.2
  have ka : ∀ j, zK S (nk S r b j) = 4 := fun j => nk_kind hT d1 e1
  have ka' : ∀ j, zK S (nk S r' b' j) = 4 := fun j => nk_kind hT d2 e2
  have i4 : ∀ a j, zK S a = 4 → zI S4 j a = zI S j a := fun a j ha => (ff a (lt18 ha (by decide))).2.2.1 j (fun h => by cases h)
  have i1 : ∀ a j, zK S a = 1 → zI S4 j a = zI S j a := fun a j ha => (ff a (lt18 ha (by decide))).2.2.1 j (fun h => by cases h)
  have hX4 : TXs S4 g r b g2 r' b' := txs_x hX q4.2.2.1 q4.2.2.2.2 (fun a j ha => (ff a (lt18 ha (by decide))).2.2.2.1 j (fun h => by cases h))
  have hY4 : TY S4 g r b := ty_x hY (by rw [q4.2.2.2.2]) (i1 g 3 a1) (fun j => ⟨i4 _ 0 (ka j), i4 _ 2 (ka j), i4 _ 3 (ka j)⟩)
  have hY4' : TY S4 g2 r' b' := ty_x hY' (by rw [q4.2.2.2.2]) (i1 g2 3 a2) (fun j => ⟨i4 _ 0 (ka' j), i4 _ 2 (ka' j), i4 _ 3 (ka' j)⟩)
  have kx4 : zK S4 x0 = 11 := C4.2.1
  have k74 : zK S4 g = 1 := by rw [q4.2.2.1]; exact k7
  have px := px_fr hT kx (by decide) (fz_X1_mayLead h4)
  have p74 : zP S4 7 x0 = some g := (px.2.1 7 (by decide)).trans p7
  have i8 : zI S4 8 x0 = zI S 8 x0 := px.2.2 8 (by decide)
  obtain ⟨⟨y6, S6⟩, h6, T6, A6, -⟩ := t_f_X1_putFirst (SZ := S4) (x0 := g) (x1 := zI S4 8 x0) T4 (a7_0 S4) k74
  replace T6 : ZT S6 := T6
  have q6 : EqT S4 S6 := fq_X1_putFirst h6
  have R6 : RM S S6 := rm_t R4 (rm_f (rm_0 S4) T4 q6 (fz_X1_putFirst h6) (by decide))
  have cn4 : cn S4 g = cn S g := by unfold cn; rw [i1 g 3 a1]
  have hH : (zI S4 8 x0).toInt = (((zI S 8 x0).toInt.toNat : Nat) : Int) := by rw [i8]; omega
  have nk4 : ∀ j, nk S4 r b j = nk S r b j := fun j => by unfold nk; rw [q4.2.2.2.2]
  have nF4 : ∀ i j, nF S4 i r b j = nF S i r b j := fun i j => by unfold nF; rw [nk4, i4 _ i (ka j)]
  have hPb := (hY.2.1 (zI S 8 x0).toInt.toNat (by omega) (by omega)).1
  have hneq : nF S4 2 r b (nF S4 0 r b (zI S 8 x0).toInt.toNat).toNat ≠ (((zI S 8 x0).toInt.toNat : Nat) : Int) := by
    intro e
    rw [nF4, nF4] at e
    have e1' : nd S g (zI S 8 x0) = nk S r b (zI S 8 x0).toInt.toNat := nd_nk hT a1 b1 c1 j8.1 hcur
    rw [e1'] at gv
    have e2' : nd S g (zI S 0 (nk S r b (zI S 8 x0).toInt.toNat)) = nk S r b (nF S 0 r b (zI S 8 x0).toInt.toNat).toNat := by
      rw [nd_nk hT a1 b1 c1 hPb.1 (by have : (zI S 0 (nk S r b (zI S 8 x0).toInt.toNat)).toInt = nF S 0 r b (zI S 8 x0).toInt.toNat := rfl
                                      omega)]
      rfl
    rw [e2'] at gv
    apply gv
    apply Int32.toInt_inj.1
    have e3' : (zI S 2 (nk S r b (nF S 0 r b (zI S 8 x0).toInt.toNat).toNat)).toInt = nF S 2 r b (nF S 0 r b (zI S 8 x0).toInt.toNat).toNat := rfl
    rw [e3', e]
    omega
  obtain ⟨u1, u2, u3⟩ := putFirst_tz (H := (zI S 8 x0).toInt.toNat) T4 hgg hrr hX4 hY4 hY4' hH (by omega) (by rw [cn4]; omega) hneq h6
  have C6 : CI S6 x0 := ci_fr C4 T6 (back S6 u1 u2 u3) (fz_X1_putFirst h6) (by decide)
  exact ok_chk kx4 (ok_calR p74 (ok_chk kx4 (ok_chk k74 (ok_calR h6 (ok_chk ⟨q6.1, q6.2.1⟩ (ok_chk (by decide) (ok_ret (rc_n C6 R6 (xr_t A4.2 A6.2)))))))))
theorem ci_write {S : ZS} {x0 : Nat} (h : CI S x0) : Ok (d_X11_write x0 S) (fun o => CI o.2 x0 ∧ RW S o.2 ∧ XR S o.2) := by
  have hCI := h
  have hT := h.1
  have kx := h.2.1
  have hZ := h.2.2.1
  show Ok (d_X11_write_0 x0 S) _
  unfold d_X11_write_0
  obtain ⟨w, p1, k1, c1⟩ := T_11_1 hT kx
  have ol : rL w = 90000 := rL_x3 (M_11_1 hT kx p1) c1
  obtain ⟨⟨y2, S2⟩, h2, T2, A2, -⟩ := t_f_X6_keep (SZ := S) (x0 := w) (x1 := 0) hT (a7_0 S) k1 (rc_ol ol)
  replace T2 : ZT S2 := T2
  have q2 : EqT S S2 := fq_X6_keep h2
  have R2 : RP S S2 := rp_f (rp_0 S) hT q2 (fz_X6_keep h2) (by decide) A2
  have l2 := keep_len k1 h2 (by decide)
  have z0 : (0 : Int32).toInt = 0 := rfl
  have kw2 : zK S2 w = 6 := by rw [q2.2.2.1]; exact k1
  have x2 := px_fr hT kx (by decide) (fz_X6_keep h2)
  obtain ⟨s, p3, k3⟩ := T_11_6 T2 x2.1
  obtain ⟨g, p4, k4⟩ := T_11_7 T2 x2.1
  have p12 : zP S2 1 x0 = some w := (x2.2.1 1 (by decide)).trans p1
  have hg3 : 4 ≤ rc g := M_11_7 T2 x2.1 p4
  refine ok_chk kx (ok_calR p1 (ok_chk k1 (ok_calR h2 (ok_chk ⟨q2.1, q2.2.1⟩ (ok_chk x2.1 (ok_calR p3 (ok_chk x2.1 (ok_calR p4 (ok_chk x2.1 (ok_calR p12 (ok_chk k3 ?_)))))))))))
  obtain ⟨⟨y7, S8⟩, h8, T8, R8, l8⟩ := t_d_X3_putHead (SZ := S2) (x0 := s) (x1 := g) (x2 := w) T2 (rp_0 S2) k3 k4 kw2 ol (by omega)
  replace T8 : ZT S8 := T8
  replace R8 : RP S2 S8 := R8
  replace l8 : (zI S8 1 w).toInt ≤ 6000 := l8
  have x8 := px_fr T2 x2.1 (by decide) (fz_X3_putHead h8)
  have p38 : zP S8 6 x0 = some s := (x8.2.1 6 (by decide)).trans p3
  have p48 : zP S8 7 x0 = some g := (x8.2.1 7 (by decide)).trans p4
  have p18 : zP S8 1 x0 = some w := (x8.2.1 1 (by decide)).trans p12
  have ks8 : zK S8 s = 3 := (px_fr T2 k3 (by decide) (fz_X3_putHead h8)).1
  have kg8 : zK S8 g = 1 := (px_fr T2 k4 (by decide) (fz_X3_putHead h8)).1
  have kw8 : zK S8 w = 6 := (px_fr T2 kw2 (by decide) (fz_X3_putHead h8)).1
  have Z8 : TZ S8 := (rp_t R2 R8).2.1 hZ
  obtain ⟨nn, h14, k14, a14⟩ := roz (t_f_X1_at (x1 := 0) T8 kg8)
  dsimp only at k14 a14
  refine ok_cal2R h8 (ok_chk x8.1 (ok_calR p38 (ok_chk x8.1 (ok_calR p48 (ok_chk x8.1 (ok_calR p48 (ok_chk kg8 (ok_calR h14 (ok_chk ⟨rfl, rfl⟩ (ok_chk k14 (ok_chk x8.1 (ok_calR p18 (ok_chk ks8 ?_)))))))))))))
  obtain ⟨⟨y17, S18⟩, h18, ⟨T18, R18, F18⟩, l18⟩ := t_d_X3_putLine (g := g) (x0 := s) (x4 := w) (x2 := zI S8 2 nn) T8 Z8 hg3 ks8 kw8 ol l8 (by rw [a14])
  replace T18 : ZT S18 := T18
  replace R18 : RP S8 S18 := R18
  replace F18 : FrZ WL VL [] S8 S18 := F18
  replace l18 : (zI S18 1 w).toInt ≤ 83400 := l18
  have x18 := px_fr T8 x8.1 (by decide) F18
  have p318 : zP S18 6 x0 = some s := (x18.2.1 6 (by decide)).trans p38
  have p418 : zP S18 7 x0 = some g := (x18.2.1 7 (by decide)).trans p48
  have p118 : zP S18 1 x0 = some w := (x18.2.1 1 (by decide)).trans p18
  have ks18 : zK S18 s = 3 := (px_fr T8 ks8 (by decide) F18).1
  have kg18 : zK S18 g = 1 := (px_fr T8 kg8 (by decide) F18).1
  have kw18 : zK S18 w = 6 := (px_fr T8 kw8 (by decide) F18).1
  refine ok_cal2R h18 (ok_chk x18.1 (ok_calR p318 (ok_chk x18.1 (ok_calR p418 (ok_chk x18.1 (ok_calR p118 (ok_chk ks18 ?_)))))))
  obtain ⟨⟨y25, S26⟩, h26, T26, R26, -⟩ := t_d_X3_putEnd (SZ := S18) (x0 := s) (x1 := g) (x2 := w) T18 (rp_0 S18) kg18 kw18 ol (by omega)
  replace T26 : ZT S26 := T26
  replace R26 : RP S18 S26 := R26
  have x26 := px_fr T18 x18.1 (by decide) (fz_X3_putEnd h26)
  have p126 : zP S26 1 x0 = some w := (x26.2.1 1 (by decide)).trans p118
  have kw26 : zK S26 w = 6 := (px_fr T18 kw18 (by decide) (fz_X3_putEnd h26)).1
  obtain ⟨y30, h30, -⟩ := roz (t_f_X6_size T26 kw26)
  have RR : RP S S26 := rp_t (rp_t (rp_t R2 R8) R18) R26
  have C2 : CI S2 x0 := ci_fr hCI T2 (R2.2.1 hZ) (fz_X6_keep h2) (by decide)
  have C8 : CI S8 x0 := ci_fr C2 T8 Z8 (fz_X3_putHead h8) (by decide)
  have C18 : CI S18 x0 := ci_fr C8 T18 (R18.2.1 Z8) F18 (by decide)
  have C26 : CI S26 x0 := ci_fr C18 T26 (RR.2.1 hZ) (fz_X3_putEnd h26) (by decide)
  exact ok_cal2R h26 (ok_chk x26.1 (ok_calR p126 (ok_chk kw26 (ok_calR h30 (ok_chk ⟨rfl, rfl⟩ (ok_ret ⟨C26, cw_m RR.1, RR.2.2.2⟩))))))
theorem ci_cut {S : ZS} {x0 : Nat} {x1 : Int32} (h : CI S x0) : Ok (f_X11_cut x0 x1 S) (fun o => CI o.2 x0 ∧ RW S o.2 ∧ CX S x0 x1 o) := by
  obtain ⟨o, ho, T', hx⟩ := cut_x (x1 := x1) h.1 h.2.1
  have R := rm_f (rm_0 S) h.1 (fq_X11_cut ho) (fz_X11_cut ho) (by decide)
  exact ⟨o, ho, ci_fr h T' (tz_fr h.1 (fz_X11_cut ho) (by decide) h.2.2.1) (fz_X11_cut ho) (by decide), cw_m R, hx⟩
theorem ci_type {S : ZS} {x0 : Nat} {x1 : Int64} {x3 : Int32} (h : CI S x0) : Ok (d_X11_type x0 x1 x3 S) (fun o => CI o.2 x0 ∧ RW S o.2 ∧ ∀ w, zP S 0 x0 = some w → (zI o.2 1 w).toInt ≤ (zI S 1 w).toInt + 8) := by
  obtain ⟨o, ho, T', R1, R2, hx⟩ := t_d_X11_type (x1 := x1) (x3 := x3) h.1 h.2.1
  exact ⟨o, ho, ci_fr h T' (R2 h.2.2.1) (fz_X11_type ho) (by decide), cw_m R1, hx⟩
/-- say: an answer leaves the text empty, a throw leaves all as it was -/
noncomputable def RCs (S : ZS) (x0 : Nat) (o : (Nat × Int32) × ZS) : Prop := (o.1.1 = 0 ∧ CI o.2 x0 ∧ RW S o.2 ∧ ∃ w, zP S 0 x0 = some w ∧ (zI o.2 1 w).toInt = 0) ∨ (o.1.1 ≠ 0 ∧ ∃ S1, o.2 = zsQ S1 ∧ CI S1 x0 ∧ RW S o.2 ∧ S1 = S)
theorem ci_say {S : ZS} {x0 : Nat} (h : CI S x0) : Ok (d_X11_say x0 S) (RCs S x0) := by
  obtain ⟨o, ho, hx⟩ := say_x h.1 h.2.1
  refine ⟨o, ho, ?_⟩
  rcases hx with ⟨hk, e⟩ | ⟨hk, w, p0, T', R1, R2, l⟩
  · exact Or.inr ⟨hk, S, e, h, by rw [e]; exact cw_q h.1 (rm_0 S), rfl⟩
  · exact Or.inl ⟨hk, ci_fr h T' (R2 h.2.2.1) (fz_X11_say ho) (by decide), cw_m R1, w, p0, l⟩
theorem ci_move {S : ZS} {x0 : Nat} {x1 : Int32} (h : CI S x0) : Ok (f_X11_move x0 x1 S) (fun o => CI o.2 x0 ∧ RW S o.2 ∧ XR S o.2) := ci_f h (t_f_X11_move h.1 (a7_0 S) h.2.1) (fun _ ho => fq_X11_move ho) (fun _ ho => fz_X11_move ho) ⟨by decide, by decide, by decide⟩
theorem ci_out {S : ZS} {x0 : Nat} {x1 : Int32} (h : CI S x0) : Ok (f_X11_out x0 x1 S) (fun o => CI o.2 x0 ∧ RW S o.2 ∧ XR S o.2) := ci_ro h (t_f_X11_out h.1 h.2.1)
theorem ci_nodes {S : ZS} {x0 : Nat} (h : CI S x0) : Ok (f_X11_nodes x0 S) (fun o => CI o.2 x0 ∧ RW S o.2 ∧ XR S o.2) := ci_ro h (t_f_X11_nodes h.1 h.2.1)
theorem ci_here {S : ZS} {x0 : Nat} (h : CI S x0) : Ok (f_X11_here x0 S) (fun o => CI o.2 x0 ∧ RW S o.2 ∧ XR S o.2) := ci_ro h (t_f_X11_here h.1 h.2.1)
theorem ci_result {S : ZS} {x0 : Nat} (h : CI S x0) : Ok (f_X11_result x0 S) (fun o => CI o.2 x0 ∧ RW S o.2 ∧ XR S o.2) := ci_ro h (t_f_X11_result h.1 h.2.1)
theorem ci_tags {S : ZS} {x0 : Nat} (h : CI S x0) : Ok (f_X11_tags x0 S) (fun o => CI o.2 x0 ∧ RW S o.2 ∧ XR S o.2) := ci_ro h (t_f_X11_tags h.1 h.2.1)
end
section
noncomputable def Em (S : ZS) (b k : Nat) : Prop := zK S b = k ∧ zB S b = (fun _ => none) ∧ b < zt S
theorem em_I {S S' : ZS} {j a b k : Nat} {v : Int32} (h : Em S b k) (e : S' = zsI S j a v) : Em S' b k := by rw [e]; exact h
theorem em_P {S S' : ZS} {j a b k : Nat} {v : Option Nat} (h : Em S b k) (e : S' = zsP S j a v) : Em S' b k := by rw [e]; exact h
theorem em_B {S S' : ZS} {a i b k : Nat} {v : Option Nat} (h : Em S b k) (e : S' = zsB S a i v) (ha : zK S a = 15) (hk : k ≠ 15) : Em S' b k := by
  rw [e]
  refine ⟨h.1, ?_, h.2.2⟩
  show va_up (zB S) a (va_up (zB S a) i v) b = _
  rw [va_up_ne _ _ (fun e2 => hk (by rw [← h.1, e2, ha])), h.2.1]
theorem em_O {S S' : ZS} {q kk n b k : Nat} (h : Em S b k) (hq : q = zt S) (e : S' = zsNewO S q kk n) : Em S' b k := by
  have hb := h.2.2
  rw [e]
  refine ⟨?_, h.2.1, Nat.lt_succ_of_lt hb⟩
  show va_up (zK S) q kk b = k
  rw [va_up_ne _ _ (by omega)]; exact h.1
theorem em_A {S S' : ZS} {q kk n b k : Nat} (h : Em S b k) (hq : q = zt S) (e : S' = zsNewA S q kk n) : Em S' b k := by
  have hb := h.2.2
  rw [e]
  refine ⟨?_, ?_, Nat.lt_succ_of_lt hb⟩
  · show va_up (zK S) q kk b = k
    rw [va_up_ne _ _ (by omega)]; exact h.1
  · show va_up (zB S) q (fun _ => none) b = _
    rw [va_up_ne _ _ (by omega)]; exact h.2.1
theorem em_N {S S' : ZS} {q kk n : Nat} (hq : q = zt S) (e : S' = zsNewA S q kk n) : Em S' q kk := by
  rw [e]
  refine ⟨va_up_self _ _ _, va_up_self _ _ _, ?_⟩
  show q < zt S + 1
  omega
theorem em_f {W V : List (Nat × Nat)} {B : List Nat} {S S' : ZS} {b k : Nat} (h : Em S b k) (hF : Fh S) (f : FrZ W V B S S') (hk : k < 18 ∧ k ∉ B) : Em S' b k := by
  obtain ⟨-, f2, f3⟩ := f hF
  have fb := f3 b (by rw [h.1]; exact hk.1)
  exact ⟨fb.1.trans h.1, (fb.2.2.2.2 (by rw [h.1]; exact hk.2)).trans h.2.1, Nat.lt_of_lt_of_le h.2.2 f2⟩
theorem fh_I {S S' : ZS} {j a : Nat} {v : Int32} (h : Fh S) (e : S' = zsI S j a v) : Fh S' := by rw [e]; exact h
theorem fh_P {S S' : ZS} {j a : Nat} {v : Option Nat} (h : Fh S) (e : S' = zsP S j a v) : Fh S' := by rw [e]; exact h
theorem fh_B {S S' : ZS} {a i : Nat} {v : Option Nat} (h : Fh S) (e : S' = zsB S a i v) : Fh S' := by rw [e]; exact h
theorem fh_O {S S' : ZS} {q kk n : Nat} (h : Fh S) (hq : q = zt S) (e : S' = zsNewO S q kk n) : Fh S' := ((frz_nO (W := []) (V := []) (B := []) frz_0 hq e) h).1
theorem fh_A {S S' : ZS} {q kk n : Nat} (h : Fh S) (hq : q = zt S) (e : S' = zsNewA S q kk n) : Fh S' := ((frz_nA (W := []) (V := []) (B := []) frz_0 hq e) h).1
theorem le_s {S S' : ZS} {q kk n m : Nat} (h : m ≤ zt S) (e : S' = zsNewA S q kk n) : m ≤ zt S' := by rw [e]; exact Nat.le_succ_of_le h

theorem x1_em {o : Int32 × ZS} {x0 : Nat} {S : ZS} (hF : Fh S) (hf : d_X1_init x0 S = some o) : ∃ b t, zt S ≤ b ∧ zt S ≤ t ∧ Em o.2 b 16 ∧ Em o.2 t 17 := by
  have hf : d_X1_init_0 x0 S = some o := hf
  unfold d_X1_init_0 at hf
  obtain ⟨q1, e1_, hf⟩ := m_bndE hf
  obtain ⟨S2, e2_, hf⟩ := m_bndE hf
  have F_S2 : Fh S2 := fh_O hF e1_ e2_
  have z_S2 : zt S ≤ zt S2 := by rw [e2_]; exact Nat.le_succ_of_le (Nat.le_refl _)
  obtain ⟨⟨r6, S7⟩, ho, hf⟩ := m_cal2E hf
  dsimp only at hf
  have o3_ := fz_X0_init ho
  replace o3_ := o3_
  have F_S7 : Fh S7 := (o3_ F_S2).1
  have z_S7 : zt S ≤ zt S7 := Nat.le_trans z_S2 (o3_ F_S2).2.1
  clear ho
  obtain ⟨q4_, hf⟩ := m_chkE hf
  obtain ⟨S10, e5_, hf⟩ := m_bndE hf
  have F_S10 : Fh S10 := fh_P F_S7 e5_
  have z_S10 : zt S ≤ zt S10 := by rw [e5_]; exact z_S7
  obtain ⟨q11, e6_, hf⟩ := m_bndE hf
  obtain ⟨S12, e7_, hf⟩ := m_bndE hf
  have F_S12 : Fh S12 := fh_O F_S10 e6_ e7_
  have z_S12 : zt S ≤ zt S12 := by rw [e7_]; exact Nat.le_succ_of_le z_S10
  obtain ⟨⟨r16, S17⟩, ho, hf⟩ := m_cal2E hf
  dsimp only at hf
  have o8_ := fz_X4_init ho
  replace o8_ := o8_
  have F_S17 : Fh S17 := (o8_ F_S12).1
  have z_S17 : zt S ≤ zt S17 := Nat.le_trans z_S12 (o8_ F_S12).2.1
  clear ho
  obtain ⟨q9_, hf⟩ := m_chkE hf
  obtain ⟨S20, e10_, hf⟩ := m_bndE hf
  have F_S20 : Fh S20 := fh_P F_S17 e10_
  have z_S20 : zt S ≤ zt S20 := by rw [e10_]; exact z_S17
  obtain ⟨-, hf⟩ := m_chkE hf
  obtain ⟨q21, e11_, hf⟩ := m_bndE hf
  obtain ⟨S22, e12_, hf⟩ := m_bndE hf
  have m13 : Em S22 q21 16 := em_N e11_ e12_
  have F_S22 : Fh S22 := fh_A F_S20 e11_ e12_
  have z_S22 : zt S ≤ zt S22 := by rw [e12_]; exact Nat.le_succ_of_le z_S20
  obtain ⟨q14_, hf⟩ := m_chkE hf
  obtain ⟨S25, e15_, hf⟩ := m_bndE hf
  have m16 : Em S25 q21 16 := em_P m13 e15_
  have F_S25 : Fh S25 := fh_P F_S22 e15_
  have z_S25 : zt S ≤ zt S25 := by rw [e15_]; exact z_S22
  obtain ⟨q17_, hf⟩ := m_chkE hf
  obtain ⟨S26, e18_, hf⟩ := m_bndE hf
  have m19 : Em S26 q21 16 := em_I m16 e18_
  have F_S26 : Fh S26 := fh_I F_S25 e18_
  have z_S26 : zt S ≤ zt S26 := by rw [e18_]; exact z_S25
  obtain ⟨-, hf⟩ := m_chkE hf
  obtain ⟨q27, e20_, hf⟩ := m_bndE hf
  obtain ⟨S28, e21_, hf⟩ := m_bndE hf
  have m22 : Em S28 q21 16 := em_A m19 e20_ e21_
  have m23 : Em S28 q27 17 := em_N e20_ e21_
  have F_S28 : Fh S28 := fh_A F_S26 e20_ e21_
  have z_S28 : zt S ≤ zt S28 := by rw [e21_]; exact Nat.le_succ_of_le z_S26
  obtain ⟨q24_, hf⟩ := m_chkE hf
  obtain ⟨S31, e25_, hf⟩ := m_bndE hf
  have m26 : Em S31 q21 16 := em_P m22 e25_
  have m27 : Em S31 q27 17 := em_P m23 e25_
  have F_S31 : Fh S31 := fh_P F_S28 e25_
  have z_S31 : zt S ≤ zt S31 := by rw [e25_]; exact z_S28
  obtain ⟨q28_, hf⟩ := m_chkE hf
  obtain ⟨S32, e29_, hf⟩ := m_bndE hf
  have m30 : Em S32 q21 16 := em_I m26 e29_
  have m31 : Em S32 q27 17 := em_I m27 e29_
  have F_S32 : Fh S32 := fh_I F_S31 e29_
  have z_S32 : zt S ≤ zt S32 := by rw [e29_]; exact z_S31
  obtain ⟨q32_, hf⟩ := m_chkE hf
  obtain ⟨S33, e33_, hf⟩ := m_bndE hf
  have m34 : Em S33 q21 16 := em_I m30 e33_
  have m35 : Em S33 q27 17 := em_I m31 e33_
  have F_S33 : Fh S33 := fh_I F_S32 e33_
  have z_S33 : zt S ≤ zt S33 := by rw [e33_]; exact z_S32
  obtain ⟨-, hf⟩ := m_chkE hf
  obtain ⟨q34, e36_, hf⟩ := m_bndE hf
  obtain ⟨S35, e37_, hf⟩ := m_bndE hf
  have m38 : Em S35 q21 16 := em_A m34 e36_ e37_
  have m39 : Em S35 q27 17 := em_A m35 e36_ e37_
  have F_S35 : Fh S35 := fh_A F_S33 e36_ e37_
  have z_S35 : zt S ≤ zt S35 := by rw [e37_]; exact Nat.le_succ_of_le z_S33
  obtain ⟨q40_, hf⟩ := m_chkE hf
  obtain ⟨S38, e41_, hf⟩ := m_bndE hf
  have m42 : Em S38 q21 16 := em_P m38 e41_
  have m43 : Em S38 q27 17 := em_P m39 e41_
  have F_S38 : Fh S38 := fh_P F_S35 e41_
  have z_S38 : zt S ≤ zt S38 := by rw [e41_]; exact z_S35
  obtain ⟨q44_, hf⟩ := m_chkE hf
  obtain ⟨b39, -, hf⟩ := m_calE hf
  obtain ⟨q45_, hf⟩ := m_chkE hf
  obtain ⟨⟨y_o40, S_o40⟩, ho, hf⟩ := m_calE hf
  dsimp only at hf
  have o46_ := fz_X0_setUp ho
  replace o46_ := o46_
  have m47 : Em S_o40 q21 16 := em_f m42 F_S38 o46_ (by decide)
  have m48 : Em S_o40 q27 17 := em_f m43 F_S38 o46_ (by decide)
  have F_S_o40 : Fh S_o40 := (o46_ F_S38).1
  have z_S_o40 : zt S ≤ zt S_o40 := Nat.le_trans z_S38 (o46_ F_S38).2.1
  clear ho
  obtain ⟨-, hf⟩ := m_chkE hf
  cases hf
  exact ⟨q21, q27, by rw [e11_]; exact z_S20, by rw [e20_]; exact z_S26, m47, m48⟩
theorem x2_em {o : Int32 × ZS} {x0 : Nat} {S : ZS} (hF : Fh S) (hf : d_X2_init x0 S = some o) : ∃ b t, zt S ≤ b ∧ zt S ≤ t ∧ Em o.2 b 16 ∧ Em o.2 t 17 := by
  have hf : d_X2_init_0 x0 S = some o := hf
  unfold d_X2_init_0 at hf
  obtain ⟨q1, e1_, hf⟩ := m_bndE hf
  obtain ⟨S2, e2_, hf⟩ := m_bndE hf
  have F_S2 : Fh S2 := fh_O hF e1_ e2_
  have z_S2 : zt S ≤ zt S2 := by rw [e2_]; exact Nat.le_succ_of_le (Nat.le_refl _)
  obtain ⟨⟨r6, S7⟩, ho, hf⟩ := m_cal2E hf
  dsimp only at hf
  have o3_ := fz_X8_init ho
  replace o3_ := o3_
  have F_S7 : Fh S7 := (o3_ F_S2).1
  have z_S7 : zt S ≤ zt S7 := Nat.le_trans z_S2 (o3_ F_S2).2.1
  clear ho
  obtain ⟨q4_, hf⟩ := m_chkE hf
  obtain ⟨S10, e5_, hf⟩ := m_bndE hf
  have F_S10 : Fh S10 := fh_P F_S7 e5_
  have z_S10 : zt S ≤ zt S10 := by rw [e5_]; exact z_S7
  obtain ⟨q11, e6_, hf⟩ := m_bndE hf
  obtain ⟨S12, e7_, hf⟩ := m_bndE hf
  have F_S12 : Fh S12 := fh_O F_S10 e6_ e7_
  have z_S12 : zt S ≤ zt S12 := by rw [e7_]; exact Nat.le_succ_of_le z_S10
  obtain ⟨⟨r16, S17⟩, ho, hf⟩ := m_cal2E hf
  dsimp only at hf
  have o8_ := fz_X5_init ho
  replace o8_ := o8_
  have F_S17 : Fh S17 := (o8_ F_S12).1
  have z_S17 : zt S ≤ zt S17 := Nat.le_trans z_S12 (o8_ F_S12).2.1
  clear ho
  obtain ⟨q9_, hf⟩ := m_chkE hf
  obtain ⟨S20, e10_, hf⟩ := m_bndE hf
  have F_S20 : Fh S20 := fh_P F_S17 e10_
  have z_S20 : zt S ≤ zt S20 := by rw [e10_]; exact z_S17
  obtain ⟨q21, e11_, hf⟩ := m_bndE hf
  obtain ⟨S22, e12_, hf⟩ := m_bndE hf
  have F_S22 : Fh S22 := fh_O F_S20 e11_ e12_
  have z_S22 : zt S ≤ zt S22 := by rw [e12_]; exact Nat.le_succ_of_le z_S20
  obtain ⟨⟨y_o25, S_o25⟩, ho, hf⟩ := m_calE hf
  dsimp only at hf
  have o13_ := fz_X6_init ho
  replace o13_ := o13_
  have F_S_o25 : Fh S_o25 := (o13_ F_S22).1
  have z_S_o25 : zt S ≤ zt S_o25 := Nat.le_trans z_S22 (o13_ F_S22).2.1
  clear ho
  obtain ⟨-, hf⟩ := m_chkE hf
  obtain ⟨q14_, hf⟩ := m_chkE hf
  obtain ⟨S26, e15_, hf⟩ := m_bndE hf
  have F_S26 : Fh S26 := fh_P F_S_o25 e15_
  have z_S26 : zt S ≤ zt S26 := by rw [e15_]; exact z_S_o25
  obtain ⟨q27, e16_, hf⟩ := m_bndE hf
  obtain ⟨S28, e17_, hf⟩ := m_bndE hf
  have F_S28 : Fh S28 := fh_O F_S26 e16_ e17_
  have z_S28 : zt S ≤ zt S28 := by rw [e17_]; exact Nat.le_succ_of_le z_S26
  obtain ⟨⟨r32, S33⟩, ho, hf⟩ := m_cal2E hf
  dsimp only at hf
  have o18_ := fz_X1_init ho
  replace o18_ := o18_
  have F_S33 : Fh S33 := (o18_ F_S28).1
  have z_S33 : zt S ≤ zt S33 := Nat.le_trans z_S28 (o18_ F_S28).2.1
  obtain ⟨b_S33, t_S33, l_S33, g_S33, mb_S33, mt_S33⟩ := x1_em F_S28 ho
  replace mb_S33 : Em S33 b_S33 16 := mb_S33
  replace mt_S33 : Em S33 t_S33 17 := mt_S33
  clear ho
  obtain ⟨q19_, hf⟩ := m_chkE hf
  obtain ⟨S36, e20_, hf⟩ := m_bndE hf
  have m21 : Em S36 b_S33 16 := em_P mb_S33 e20_
  have m22 : Em S36 t_S33 17 := em_P mt_S33 e20_
  have F_S36 : Fh S36 := fh_P F_S33 e20_
  have z_S36 : zt S ≤ zt S36 := by rw [e20_]; exact z_S33
  obtain ⟨q23_, hf⟩ := m_chkE hf
  obtain ⟨S37, e24_, hf⟩ := m_bndE hf
  have m25 : Em S37 b_S33 16 := em_I m21 e24_
  have m26 : Em S37 t_S33 17 := em_I m22 e24_
  have F_S37 : Fh S37 := fh_I F_S36 e24_
  have z_S37 : zt S ≤ zt S37 := by rw [e24_]; exact z_S36
  obtain ⟨q27_, hf⟩ := m_chkE hf
  obtain ⟨S38, e28_, hf⟩ := m_bndE hf
  have m29 : Em S38 b_S33 16 := em_I m25 e28_
  have m30 : Em S38 t_S33 17 := em_I m26 e28_
  have F_S38 : Fh S38 := fh_I F_S37 e28_
  have z_S38 : zt S ≤ zt S38 := by rw [e28_]; exact z_S37
  obtain ⟨q39, e31_, hf⟩ := m_bndE hf
  obtain ⟨S40, e32_, hf⟩ := m_bndE hf
  have m33 : Em S40 b_S33 16 := em_O m29 e31_ e32_
  have m34 : Em S40 t_S33 17 := em_O m30 e31_ e32_
  have F_S40 : Fh S40 := fh_O F_S38 e31_ e32_
  have z_S40 : zt S ≤ zt S40 := by rw [e32_]; exact Nat.le_succ_of_le z_S38
  obtain ⟨⟨y_o43, S_o43⟩, ho, hf⟩ := m_calE hf
  dsimp only at hf
  have o35_ := fz_X6_init ho
  replace o35_ := o35_
  have m36 : Em S_o43 b_S33 16 := em_f m33 F_S40 o35_ (by decide)
  have m37 : Em S_o43 t_S33 17 := em_f m34 F_S40 o35_ (by decide)
  have F_S_o43 : Fh S_o43 := (o35_ F_S40).1
  have z_S_o43 : zt S ≤ zt S_o43 := Nat.le_trans z_S40 (o35_ F_S40).2.1
  clear ho
  obtain ⟨-, hf⟩ := m_chkE hf
  obtain ⟨q38_, hf⟩ := m_chkE hf
  obtain ⟨S44, e39_, hf⟩ := m_bndE hf
  have m40 : Em S44 b_S33 16 := em_P m36 e39_
  have m41 : Em S44 t_S33 17 := em_P m37 e39_
  have F_S44 : Fh S44 := fh_P F_S_o43 e39_
  have z_S44 : zt S ≤ zt S44 := by rw [e39_]; exact z_S_o43
  obtain ⟨q45, e42_, hf⟩ := m_bndE hf
  obtain ⟨S46, e43_, hf⟩ := m_bndE hf
  have m44 : Em S46 b_S33 16 := em_O m40 e42_ e43_
  have m45 : Em S46 t_S33 17 := em_O m41 e42_ e43_
  have F_S46 : Fh S46 := fh_O F_S44 e42_ e43_
  have z_S46 : zt S ≤ zt S46 := by rw [e43_]; exact Nat.le_succ_of_le z_S44
  obtain ⟨⟨y_o49, S_o49⟩, ho, hf⟩ := m_calE hf
  dsimp only at hf
  have o46_ := fz_X6_init ho
  replace o46_ := o46_
  have m47 : Em S_o49 b_S33 16 := em_f m44 F_S46 o46_ (by decide)
  have m48 : Em S_o49 t_S33 17 := em_f m45 F_S46 o46_ (by decide)
  have F_S_o49 : Fh S_o49 := (o46_ F_S46).1
  have z_S_o49 : zt S ≤ zt S_o49 := Nat.le_trans z_S46 (o46_ F_S46).2.1
  clear ho
  obtain ⟨-, hf⟩ := m_chkE hf
  obtain ⟨q49_, hf⟩ := m_chkE hf
  obtain ⟨S50, e50_, hf⟩ := m_bndE hf
  have m51 : Em S50 b_S33 16 := em_P m47 e50_
  have m52 : Em S50 t_S33 17 := em_P m48 e50_
  have F_S50 : Fh S50 := fh_P F_S_o49 e50_
  have z_S50 : zt S ≤ zt S50 := by rw [e50_]; exact z_S_o49
  obtain ⟨-, hf⟩ := m_chkE hf
  obtain ⟨q51, e53_, hf⟩ := m_bndE hf
  obtain ⟨S52, e54_, hf⟩ := m_bndE hf
  have m55 : Em S52 b_S33 16 := em_A m51 e53_ e54_
  have m56 : Em S52 t_S33 17 := em_A m52 e53_ e54_
  have F_S52 : Fh S52 := fh_A F_S50 e53_ e54_
  have z_S52 : zt S ≤ zt S52 := by rw [e54_]; exact Nat.le_succ_of_le z_S50
  obtain ⟨q57_, hf⟩ := m_chkE hf
  obtain ⟨S55, e58_, hf⟩ := m_bndE hf
  have m59 : Em S55 b_S33 16 := em_P m55 e58_
  have m60 : Em S55 t_S33 17 := em_P m56 e58_
  have F_S55 : Fh S55 := fh_P F_S52 e58_
  have z_S55 : zt S ≤ zt S55 := by rw [e58_]; exact z_S52
  obtain ⟨-, hf⟩ := m_chkE hf
  obtain ⟨q56, e61_, hf⟩ := m_bndE hf
  obtain ⟨S57, e62_, hf⟩ := m_bndE hf
  have m63 : Em S57 b_S33 16 := em_A m59 e61_ e62_
  have m64 : Em S57 t_S33 17 := em_A m60 e61_ e62_
  have F_S57 : Fh S57 := fh_A F_S55 e61_ e62_
  have z_S57 : zt S ≤ zt S57 := by rw [e62_]; exact Nat.le_succ_of_le z_S55
  obtain ⟨q65_, hf⟩ := m_chkE hf
  obtain ⟨S60, e66_, hf⟩ := m_bndE hf
  have m67 : Em S60 b_S33 16 := em_P m63 e66_
  have m68 : Em S60 t_S33 17 := em_P m64 e66_
  have F_S60 : Fh S60 := fh_P F_S57 e66_
  have z_S60 : zt S ≤ zt S60 := by rw [e66_]; exact z_S57
  obtain ⟨-, hf⟩ := m_chkE hf
  obtain ⟨q61, e69_, hf⟩ := m_bndE hf
  obtain ⟨S62, e70_, hf⟩ := m_bndE hf
  have m71 : Em S62 b_S33 16 := em_A m67 e69_ e70_
  have m72 : Em S62 t_S33 17 := em_A m68 e69_ e70_
  have F_S62 : Fh S62 := fh_A F_S60 e69_ e70_
  have z_S62 : zt S ≤ zt S62 := by rw [e70_]; exact Nat.le_succ_of_le z_S60
  obtain ⟨q73_, hf⟩ := m_chkE hf
  obtain ⟨S65, e74_, hf⟩ := m_bndE hf
  have m75 : Em S65 b_S33 16 := em_P m71 e74_
  have m76 : Em S65 t_S33 17 := em_P m72 e74_
  have F_S65 : Fh S65 := fh_P F_S62 e74_
  have z_S65 : zt S ≤ zt S65 := by rw [e74_]; exact z_S62
  obtain ⟨-, hf⟩ := m_chkE hf
  obtain ⟨q66, e77_, hf⟩ := m_bndE hf
  obtain ⟨S67, e78_, hf⟩ := m_bndE hf
  have m79 : Em S67 b_S33 16 := em_A m75 e77_ e78_
  have m80 : Em S67 t_S33 17 := em_A m76 e77_ e78_
  have F_S67 : Fh S67 := fh_A F_S65 e77_ e78_
  have z_S67 : zt S ≤ zt S67 := by rw [e78_]; exact Nat.le_succ_of_le z_S65
  obtain ⟨q81_, hf⟩ := m_chkE hf
  obtain ⟨S70, e82_, hf⟩ := m_bndE hf
  have m83 : Em S70 b_S33 16 := em_P m79 e82_
  have m84 : Em S70 t_S33 17 := em_P m80 e82_
  have F_S70 : Fh S70 := fh_P F_S67 e82_
  have z_S70 : zt S ≤ zt S70 := by rw [e82_]; exact z_S67
  have o85_ := fz_X2_init_116 _ _ _ _ _ hf
  have m86 : Em o.2 b_S33 16 := em_f m83 F_S70 o85_ (by decide)
  have m87 : Em o.2 t_S33 17 := em_f m84 F_S70 o85_ (by decide)
  exact ⟨b_S33, t_S33, Nat.le_trans z_S28 l_S33, Nat.le_trans z_S28 g_S33, m86, m87⟩
theorem x11_em {o : Int32 × ZS} {x0 : Nat} {S : ZS} (hF : Fh S) (hf : d_X11_init x0 S = some o) : ∃ b b' t t', (Em o.2 b 16 ∧ Em o.2 b' 16 ∧ b ≠ b') ∧ (Em o.2 t 17 ∧ Em o.2 t' 17 ∧ t ≠ t') ∧ Fh o.2 := by
  have hf : d_X11_init_0 x0 S = some o := hf
  unfold d_X11_init_0 at hf
  obtain ⟨q1, e1_, hf⟩ := m_bndE hf
  obtain ⟨S2, e2_, hf⟩ := m_bndE hf
  have F_S2 : Fh S2 := fh_O hF e1_ e2_
  have z_S2 : zt S ≤ zt S2 := by rw [e2_]; exact Nat.le_succ_of_le (Nat.le_refl _)
  obtain ⟨⟨y_o5, S_o5⟩, ho, hf⟩ := m_calE hf
  dsimp only at hf
  have o3_ := fz_X6_init ho
  replace o3_ := o3_
  have F_S_o5 : Fh S_o5 := (o3_ F_S2).1
  have z_S_o5 : zt S ≤ zt S_o5 := Nat.le_trans z_S2 (o3_ F_S2).2.1
  clear ho
  obtain ⟨-, hf⟩ := m_chkE hf
  obtain ⟨q4_, hf⟩ := m_chkE hf
  obtain ⟨S6, e5_, hf⟩ := m_bndE hf
  have F_S6 : Fh S6 := fh_P F_S_o5 e5_
  have z_S6 : zt S ≤ zt S6 := by rw [e5_]; exact z_S_o5
  obtain ⟨q7, e6_, hf⟩ := m_bndE hf
  obtain ⟨S8, e7_, hf⟩ := m_bndE hf
  have F_S8 : Fh S8 := fh_O F_S6 e6_ e7_
  have z_S8 : zt S ≤ zt S8 := by rw [e7_]; exact Nat.le_succ_of_le z_S6
  obtain ⟨⟨y_o11, S_o11⟩, ho, hf⟩ := m_calE hf
  dsimp only at hf
  have o8_ := fz_X6_init ho
  replace o8_ := o8_
  have F_S_o11 : Fh S_o11 := (o8_ F_S8).1
  have z_S_o11 : zt S ≤ zt S_o11 := Nat.le_trans z_S8 (o8_ F_S8).2.1
  clear ho
  obtain ⟨-, hf⟩ := m_chkE hf
  obtain ⟨q9_, hf⟩ := m_chkE hf
  obtain ⟨S12, e10_, hf⟩ := m_bndE hf
  have F_S12 : Fh S12 := fh_P F_S_o11 e10_
  have z_S12 : zt S ≤ zt S12 := by rw [e10_]; exact z_S_o11
  obtain ⟨q13, e11_, hf⟩ := m_bndE hf
  obtain ⟨S14, e12_, hf⟩ := m_bndE hf
  have F_S14 : Fh S14 := fh_O F_S12 e11_ e12_
  have z_S14 : zt S ≤ zt S14 := by rw [e12_]; exact Nat.le_succ_of_le z_S12
  obtain ⟨⟨r18, S19⟩, ho, hf⟩ := m_cal2E hf
  dsimp only at hf
  have o13_ := fz_X7_init ho
  replace o13_ := o13_
  have F_S19 : Fh S19 := (o13_ F_S14).1
  have z_S19 : zt S ≤ zt S19 := Nat.le_trans z_S14 (o13_ F_S14).2.1
  clear ho
  obtain ⟨q14_, hf⟩ := m_chkE hf
  obtain ⟨S22, e15_, hf⟩ := m_bndE hf
  have F_S22 : Fh S22 := fh_P F_S19 e15_
  have z_S22 : zt S ≤ zt S22 := by rw [e15_]; exact z_S19
  obtain ⟨q23, e16_, hf⟩ := m_bndE hf
  obtain ⟨S24, e17_, hf⟩ := m_bndE hf
  have F_S24 : Fh S24 := fh_O F_S22 e16_ e17_
  have z_S24 : zt S ≤ zt S24 := by rw [e17_]; exact Nat.le_succ_of_le z_S22
  obtain ⟨⟨r28, S29⟩, ho, hf⟩ := m_cal2E hf
  dsimp only at hf
  have o18_ := fz_X8_init ho
  replace o18_ := o18_
  have F_S29 : Fh S29 := (o18_ F_S24).1
  have z_S29 : zt S ≤ zt S29 := Nat.le_trans z_S24 (o18_ F_S24).2.1
  clear ho
  obtain ⟨q19_, hf⟩ := m_chkE hf
  obtain ⟨S32, e20_, hf⟩ := m_bndE hf
  have F_S32 : Fh S32 := fh_P F_S29 e20_
  have z_S32 : zt S ≤ zt S32 := by rw [e20_]; exact z_S29
  obtain ⟨q33, e21_, hf⟩ := m_bndE hf
  obtain ⟨S34, e22_, hf⟩ := m_bndE hf
  have F_S34 : Fh S34 := fh_O F_S32 e21_ e22_
  have z_S34 : zt S ≤ zt S34 := by rw [e22_]; exact Nat.le_succ_of_le z_S32
  obtain ⟨⟨r38, S39⟩, ho, hf⟩ := m_cal2E hf
  dsimp only at hf
  have o23_ := fz_X9_init ho
  replace o23_ := o23_
  have F_S39 : Fh S39 := (o23_ F_S34).1
  have z_S39 : zt S ≤ zt S39 := Nat.le_trans z_S34 (o23_ F_S34).2.1
  clear ho
  obtain ⟨q24_, hf⟩ := m_chkE hf
  obtain ⟨S42, e25_, hf⟩ := m_bndE hf
  have F_S42 : Fh S42 := fh_P F_S39 e25_
  have z_S42 : zt S ≤ zt S42 := by rw [e25_]; exact z_S39
  obtain ⟨q43, e26_, hf⟩ := m_bndE hf
  obtain ⟨S44, e27_, hf⟩ := m_bndE hf
  have F_S44 : Fh S44 := fh_O F_S42 e26_ e27_
  have z_S44 : zt S ≤ zt S44 := by rw [e27_]; exact Nat.le_succ_of_le z_S42
  obtain ⟨⟨r48, S49⟩, ho, hf⟩ := m_cal2E hf
  dsimp only at hf
  have o28_ := fz_X2_init ho
  replace o28_ := o28_
  have F_S49 : Fh S49 := (o28_ F_S44).1
  have z_S49 : zt S ≤ zt S49 := Nat.le_trans z_S44 (o28_ F_S44).2.1
  obtain ⟨b_S49, t_S49, l_S49, g_S49, mb_S49, mt_S49⟩ := x2_em F_S44 ho
  replace mb_S49 : Em S49 b_S49 16 := mb_S49
  replace mt_S49 : Em S49 t_S49 17 := mt_S49
  clear ho
  obtain ⟨q29_, hf⟩ := m_chkE hf
  obtain ⟨S52, e30_, hf⟩ := m_bndE hf
  have m31 : Em S52 b_S49 16 := em_P mb_S49 e30_
  have m32 : Em S52 t_S49 17 := em_P mt_S49 e30_
  have F_S52 : Fh S52 := fh_P F_S49 e30_
  have z_S52 : zt S ≤ zt S52 := by rw [e30_]; exact z_S49
  obtain ⟨q53, e33_, hf⟩ := m_bndE hf
  obtain ⟨S54, e34_, hf⟩ := m_bndE hf
  have m35 : Em S54 b_S49 16 := em_O m31 e33_ e34_
  have m36 : Em S54 t_S49 17 := em_O m32 e33_ e34_
  have F_S54 : Fh S54 := fh_O F_S52 e33_ e34_
  have z_S54 : zt S ≤ zt S54 := by rw [e34_]; exact Nat.le_succ_of_le z_S52
  obtain ⟨⟨r58, S59⟩, ho, hf⟩ := m_cal2E hf
  dsimp only at hf
  have o37_ := fz_X3_init ho
  replace o37_ := o37_
  have m38 : Em S59 b_S49 16 := em_f m35 F_S54 o37_ (by decide)
  have m39 : Em S59 t_S49 17 := em_f m36 F_S54 o37_ (by decide)
  have F_S59 : Fh S59 := (o37_ F_S54).1
  have z_S59 : zt S ≤ zt S59 := Nat.le_trans z_S54 (o37_ F_S54).2.1
  clear ho
  obtain ⟨q40_, hf⟩ := m_chkE hf
  obtain ⟨S62, e41_, hf⟩ := m_bndE hf
  have m42 : Em S62 b_S49 16 := em_P m38 e41_
  have m43 : Em S62 t_S49 17 := em_P m39 e41_
  have F_S62 : Fh S62 := fh_P F_S59 e41_
  have z_S62 : zt S ≤ zt S62 := by rw [e41_]; exact z_S59
  obtain ⟨q63, e44_, hf⟩ := m_bndE hf
  obtain ⟨S64, e45_, hf⟩ := m_bndE hf
  have m46 : Em S64 b_S49 16 := em_O m42 e44_ e45_
  have m47 : Em S64 t_S49 17 := em_O m43 e44_ e45_
  have F_S64 : Fh S64 := fh_O F_S62 e44_ e45_
  have z_S64 : zt S ≤ zt S64 := by rw [e45_]; exact Nat.le_succ_of_le z_S62
  obtain ⟨⟨r68, S69⟩, ho, hf⟩ := m_cal2E hf
  dsimp only at hf
  have o48_ := fz_X1_init ho
  replace o48_ := o48_
  have m49 : Em S69 b_S49 16 := em_f m46 F_S64 o48_ (by decide)
  have m50 : Em S69 t_S49 17 := em_f m47 F_S64 o48_ (by decide)
  have F_S69 : Fh S69 := (o48_ F_S64).1
  have z_S69 : zt S ≤ zt S69 := Nat.le_trans z_S64 (o48_ F_S64).2.1
  obtain ⟨b_S69, t_S69, l_S69, g_S69, mb_S69, mt_S69⟩ := x1_em F_S64 ho
  replace mb_S69 : Em S69 b_S69 16 := mb_S69
  replace mt_S69 : Em S69 t_S69 17 := mt_S69
  clear ho
  obtain ⟨q51_, hf⟩ := m_chkE hf
  obtain ⟨S72, e52_, hf⟩ := m_bndE hf
  have m53 : Em S72 b_S49 16 := em_P m49 e52_
  have m54 : Em S72 t_S49 17 := em_P m50 e52_
  have m55 : Em S72 b_S69 16 := em_P mb_S69 e52_
  have m56 : Em S72 t_S69 17 := em_P mt_S69 e52_
  have F_S72 : Fh S72 := fh_P F_S69 e52_
  have z_S72 : zt S ≤ zt S72 := by rw [e52_]; exact z_S69
  obtain ⟨q57_, hf⟩ := m_chkE hf
  obtain ⟨S73, e58_, hf⟩ := m_bndE hf
  have m59 : Em S73 b_S49 16 := em_I m53 e58_
  have m60 : Em S73 t_S49 17 := em_I m54 e58_
  have m61 : Em S73 b_S69 16 := em_I m55 e58_
  have m62 : Em S73 t_S69 17 := em_I m56 e58_
  have F_S73 : Fh S73 := fh_I F_S72 e58_
  have z_S73 : zt S ≤ zt S73 := by rw [e58_]; exact z_S72
  obtain ⟨q74, e63_, hf⟩ := m_bndE hf
  obtain ⟨S75, e64_, hf⟩ := m_bndE hf
  have m65 : Em S75 b_S49 16 := em_O m59 e63_ e64_
  have m66 : Em S75 t_S49 17 := em_O m60 e63_ e64_
  have m67 : Em S75 b_S69 16 := em_O m61 e63_ e64_
  have m68 : Em S75 t_S69 17 := em_O m62 e63_ e64_
  have F_S75 : Fh S75 := fh_O F_S73 e63_ e64_
  have z_S75 : zt S ≤ zt S75 := by rw [e64_]; exact Nat.le_succ_of_le z_S73
  obtain ⟨⟨r79, S80⟩, ho, hf⟩ := m_cal2E hf
  dsimp only at hf
  have o69_ := fz_X0_init ho
  replace o69_ := o69_
  have m70 : Em S80 b_S49 16 := em_f m65 F_S75 o69_ (by decide)
  have m71 : Em S80 t_S49 17 := em_f m66 F_S75 o69_ (by decide)
  have m72 : Em S80 b_S69 16 := em_f m67 F_S75 o69_ (by decide)
  have m73 : Em S80 t_S69 17 := em_f m68 F_S75 o69_ (by decide)
  have F_S80 : Fh S80 := (o69_ F_S75).1
  have z_S80 : zt S ≤ zt S80 := Nat.le_trans z_S75 (o69_ F_S75).2.1
  clear ho
  obtain ⟨q74_, hf⟩ := m_chkE hf
  obtain ⟨S83, e75_, hf⟩ := m_bndE hf
  have m76 : Em S83 b_S49 16 := em_P m70 e75_
  have m77 : Em S83 t_S49 17 := em_P m71 e75_
  have m78 : Em S83 b_S69 16 := em_P m72 e75_
  have m79 : Em S83 t_S69 17 := em_P m73 e75_
  have F_S83 : Fh S83 := fh_P F_S80 e75_
  have z_S83 : zt S ≤ zt S83 := by rw [e75_]; exact z_S80
  obtain ⟨q80_, hf⟩ := m_chkE hf
  obtain ⟨b84, -, hf⟩ := m_calE hf
  obtain ⟨q81_, hf⟩ := m_chkE hf
  obtain ⟨⟨y_o85, S_o85⟩, ho, hf⟩ := m_calE hf
  dsimp only at hf
  have o82_ := fz_X0_setUp ho
  replace o82_ := o82_
  have m83 : Em S_o85 b_S49 16 := em_f m76 F_S83 o82_ (by decide)
  have m84 : Em S_o85 t_S49 17 := em_f m77 F_S83 o82_ (by decide)
  have m85 : Em S_o85 b_S69 16 := em_f m78 F_S83 o82_ (by decide)
  have m86 : Em S_o85 t_S69 17 := em_f m79 F_S83 o82_ (by decide)
  have F_S_o85 : Fh S_o85 := (o82_ F_S83).1
  have z_S_o85 : zt S ≤ zt S_o85 := Nat.le_trans z_S83 (o82_ F_S83).2.1
  clear ho
  obtain ⟨-, hf⟩ := m_chkE hf
  cases hf
  exact ⟨b_S49, b_S69, t_S49, t_S69, ⟨m83, m85, Nat.ne_of_lt (Nat.lt_of_lt_of_le m46.2.2 l_S69)⟩, ⟨m84, m86, Nat.ne_of_lt (Nat.lt_of_lt_of_le m47.2.2 g_S69)⟩, F_S_o85⟩
end
section
theorem kd_X11_signs_0 {o : (Nat × Int32) × ZS} {x0 : Nat} {x1 : Int32} {S : ZS} (hf : d_X11_signs_0 x0 x1 S = some o) : o.1.1 = 0 ∨ o.1.1 = 1 := by
  unfold d_X11_signs_0 at hf
  obtain ⟨-, hf⟩ := m_chkE hf
  obtain ⟨b1, -, hf⟩ := m_calE hf
  obtain ⟨-, hf⟩ := m_chkE hf
  obtain ⟨b2, -, hf⟩ := m_calE hf
  obtain ⟨-, hf⟩ := m_chkE hf
  obtain ⟨o3, -, hf⟩ := m_calE hf
  obtain ⟨-, hf⟩ := m_chkE hf
  rcases m_ifE hf with ⟨-, hf⟩ | ⟨-, hf⟩
  · skip
    cases hf
    exact Or.inr rfl
  · skip
    obtain ⟨-, hf⟩ := m_chkE hf
    obtain ⟨b4, -, hf⟩ := m_calE hf
    obtain ⟨-, hf⟩ := m_chkE hf
    obtain ⟨o5, -, hf⟩ := m_calE hf
    obtain ⟨-, hf⟩ := m_chkE hf
    obtain ⟨-, hf⟩ := m_chkE hf
    obtain ⟨b6, -, hf⟩ := m_calE hf
    obtain ⟨-, hf⟩ := m_chkE hf
    obtain ⟨b7, -, hf⟩ := m_calE hf
    obtain ⟨-, hf⟩ := m_chkE hf
    obtain ⟨b8, -, hf⟩ := m_calE hf
    obtain ⟨-, hf⟩ := m_chkE hf
    obtain ⟨⟨r10, S11⟩, -, hf⟩ := m_cal2E hf
    obtain ⟨-, hf⟩ := m_chkE hf
    obtain ⟨b14, -, hf⟩ := m_calE hf
    obtain ⟨-, hf⟩ := m_chkE hf
    obtain ⟨o15, -, hf⟩ := m_calE hf
    obtain ⟨-, hf⟩ := m_chkE hf
    cases hf
    exact Or.inl rfl
theorem kd_X11_signs {o : (Nat × Int32) × ZS} {x0 : Nat} {x1 : Int32} {S : ZS} (hf : d_X11_signs x0 x1 S = some o) : o.1.1 = 0 ∨ o.1.1 = 1 := by
  unfold d_X11_signs at hf
  exact kd_X11_signs_0 hf
theorem kd_X11_node_0 {o : (Nat × Int32) × ZS} {x0 : Nat} {x1 : Int32} {x2 : Int32} {S : ZS} (hf : d_X11_node_0 x0 x1 x2 S = some o) : o.1.1 = 0 ∨ o.1.1 = 2 := by
  unfold d_X11_node_0 at hf
  obtain ⟨-, hf⟩ := m_chkE hf
  obtain ⟨b1, -, hf⟩ := m_calE hf
  obtain ⟨-, hf⟩ := m_chkE hf
  obtain ⟨o2, -, hf⟩ := m_calE hf
  obtain ⟨-, hf⟩ := m_chkE hf
  rcases m_ifE hf with ⟨-, hf⟩ | ⟨-, hf⟩
  · skip
    cases hf
    exact Or.inr rfl
  · skip
    obtain ⟨-, hf⟩ := m_chkE hf
    obtain ⟨b3, -, hf⟩ := m_calE hf
    obtain ⟨-, hf⟩ := m_chkE hf
    obtain ⟨o4, -, hf⟩ := m_calE hf
    obtain ⟨-, hf⟩ := m_chkE hf
    rcases m_ifE hf with ⟨-, hf⟩ | ⟨-, hf⟩
    · skip
      obtain ⟨-, hf⟩ := m_chkE hf
      cases hf
      exact Or.inl rfl
    · skip
      rcases m_ifE hf with ⟨-, hf⟩ | ⟨-, hf⟩
      · skip
        obtain ⟨-, hf⟩ := m_chkE hf
        cases hf
        exact Or.inl rfl
      · skip
        rcases m_ifE hf with ⟨-, hf⟩ | ⟨-, hf⟩
        · skip
          obtain ⟨-, hf⟩ := m_chkE hf
          cases hf
          exact Or.inl rfl
        · skip
          rcases m_ifE hf with ⟨-, hf⟩ | ⟨-, hf⟩
          · skip
            obtain ⟨-, hf⟩ := m_chkE hf
            cases hf
            exact Or.inl rfl
          · skip
            rcases m_ifE hf with ⟨-, hf⟩ | ⟨-, hf⟩
            · skip
              obtain ⟨-, hf⟩ := m_chkE hf
              cases hf
              exact Or.inl rfl
            · skip
              rcases m_ifE hf with ⟨-, hf⟩ | ⟨-, hf⟩
              · skip
                obtain ⟨-, hf⟩ := m_chkE hf
                obtain ⟨b5, -, hf⟩ := m_calE hf
                obtain ⟨-, hf⟩ := m_chkE hf
                obtain ⟨o6, -, hf⟩ := m_calE hf
                obtain ⟨-, hf⟩ := m_chkE hf
                cases hf
                exact Or.inl rfl
              · skip
                cases hf
                exact Or.inr rfl
theorem kd_X11_node {o : (Nat × Int32) × ZS} {x0 : Nat} {x1 : Int32} {x2 : Int32} {S : ZS} (hf : d_X11_node x0 x1 x2 S = some o) : o.1.1 = 0 ∨ o.1.1 = 2 := by
  unfold d_X11_node at hf
  exact kd_X11_node_0 hf
theorem kd_X11_mark_30 {o : (Nat × Int32) × ZS} {S : ZS} (hf : d_X11_mark_30 S = some o) : o.1.1 = 0 ∨ o.1.1 = 2 := by
  unfold d_X11_mark_30 at hf
  cases hf
  exact Or.inr rfl
theorem kd_X11_mark_0 {o : (Nat × Int32) × ZS} {x0 : Nat} {x1 : Int32} {x2 : Int32} {S : ZS} (hf : d_X11_mark_0 x0 x1 x2 S = some o) : o.1.1 = 0 ∨ o.1.1 = 2 := by
  unfold d_X11_mark_0 at hf
  obtain ⟨-, hf⟩ := m_chkE hf
  obtain ⟨b1, -, hf⟩ := m_calE hf
  obtain ⟨-, hf⟩ := m_chkE hf
  obtain ⟨o2, -, hf⟩ := m_calE hf
  obtain ⟨-, hf⟩ := m_chkE hf
  rcases m_ifE hf with ⟨-, hf⟩ | ⟨-, hf⟩
  · skip
    exact kd_X11_mark_30 hf
  · skip
    rcases m_ifE hf with ⟨-, hf⟩ | ⟨-, hf⟩
    · skip
      exact kd_X11_mark_30 hf
    · skip
      obtain ⟨-, hf⟩ := m_chkE hf
      obtain ⟨b3, -, hf⟩ := m_calE hf
      obtain ⟨-, hf⟩ := m_chkE hf
      obtain ⟨o4, -, hf⟩ := m_calE hf
      obtain ⟨-, hf⟩ := m_chkE hf
      obtain ⟨-, hf⟩ := m_chkE hf
      rcases m_ifE hf with ⟨-, hf⟩ | ⟨-, hf⟩
      · skip
        obtain ⟨-, hf⟩ := m_chkE hf
        obtain ⟨b5, -, hf⟩ := m_calE hf
        obtain ⟨-, hf⟩ := m_chkE hf
        obtain ⟨o6, -, hf⟩ := m_calE hf
        obtain ⟨-, hf⟩ := m_chkE hf
        obtain ⟨-, hf⟩ := m_chkE hf
        obtain ⟨o7, -, hf⟩ := m_calE hf
        obtain ⟨-, hf⟩ := m_chkE hf
        cases hf
        exact Or.inl rfl
      · skip
        exact kd_X11_mark_30 hf
theorem kd_X11_mark {o : (Nat × Int32) × ZS} {x0 : Nat} {x1 : Int32} {x2 : Int32} {S : ZS} (hf : d_X11_mark x0 x1 x2 S = some o) : o.1.1 = 0 ∨ o.1.1 = 2 := by
  unfold d_X11_mark at hf
  exact kd_X11_mark_0 hf
theorem kd_X11_remark_33 {o : (Nat × Int32) × ZS} {S : ZS} (hf : d_X11_remark_33 S = some o) : o.1.1 = 0 ∨ o.1.1 = 2 := by
  unfold d_X11_remark_33 at hf
  cases hf
  exact Or.inr rfl
theorem kd_X11_remark_0 {o : (Nat × Int32) × ZS} {x0 : Nat} {x1 : Int32} {x2 : Int32} {S : ZS} (hf : d_X11_remark_0 x0 x1 x2 S = some o) : o.1.1 = 0 ∨ o.1.1 = 2 := by
  unfold d_X11_remark_0 at hf
  obtain ⟨-, hf⟩ := m_chkE hf
  obtain ⟨b1, -, hf⟩ := m_calE hf
  obtain ⟨-, hf⟩ := m_chkE hf
  obtain ⟨o2, -, hf⟩ := m_calE hf
  obtain ⟨-, hf⟩ := m_chkE hf
  rcases m_ifE hf with ⟨-, hf⟩ | ⟨-, hf⟩
  · skip
    exact kd_X11_remark_33 hf
  · skip
    rcases m_ifE hf with ⟨-, hf⟩ | ⟨-, hf⟩
    · skip
      exact kd_X11_remark_33 hf
    · skip
      obtain ⟨-, hf⟩ := m_chkE hf
      obtain ⟨b3, -, hf⟩ := m_calE hf
      obtain ⟨-, hf⟩ := m_chkE hf
      obtain ⟨o4, -, hf⟩ := m_calE hf
      obtain ⟨-, hf⟩ := m_chkE hf
      obtain ⟨-, hf⟩ := m_chkE hf
      obtain ⟨b5, -, hf⟩ := m_calE hf
      obtain ⟨-, hf⟩ := m_chkE hf
      obtain ⟨o6, -, hf⟩ := m_calE hf
      obtain ⟨-, hf⟩ := m_chkE hf
      rcases m_ifE hf with ⟨-, hf⟩ | ⟨-, hf⟩
      · skip
        obtain ⟨-, hf⟩ := m_chkE hf
        obtain ⟨b7, -, hf⟩ := m_calE hf
        obtain ⟨-, hf⟩ := m_chkE hf
        obtain ⟨o8, -, hf⟩ := m_calE hf
        obtain ⟨-, hf⟩ := m_chkE hf
        obtain ⟨-, hf⟩ := m_chkE hf
        obtain ⟨b9, -, hf⟩ := m_calE hf
        obtain ⟨-, hf⟩ := m_chkE hf
        obtain ⟨o10, -, hf⟩ := m_calE hf
        obtain ⟨-, hf⟩ := m_chkE hf
        cases hf
        exact Or.inl rfl
      · skip
        exact kd_X11_remark_33 hf
theorem kd_X11_remark {o : (Nat × Int32) × ZS} {x0 : Nat} {x1 : Int32} {x2 : Int32} {S : ZS} (hf : d_X11_remark x0 x1 x2 S = some o) : o.1.1 = 0 ∨ o.1.1 = 2 := by
  unfold d_X11_remark at hf
  exact kd_X11_remark_0 hf
theorem kd_X11_go_0 {o : (Nat × Int32) × ZS} {x0 : Nat} {x1 : Int32} {S : ZS} (hf : d_X11_go_0 x0 x1 S = some o) : o.1.1 = 0 ∨ o.1.1 = 2 := by
  unfold d_X11_go_0 at hf
  obtain ⟨-, hf⟩ := m_chkE hf
  obtain ⟨b1, -, hf⟩ := m_calE hf
  obtain ⟨-, hf⟩ := m_chkE hf
  obtain ⟨o2, -, hf⟩ := m_calE hf
  obtain ⟨-, hf⟩ := m_chkE hf
  rcases m_ifE hf with ⟨-, hf⟩ | ⟨-, hf⟩
  · skip
    cases hf
    exact Or.inr rfl
  · skip
    obtain ⟨-, hf⟩ := m_chkE hf
    obtain ⟨S3, -, hf⟩ := m_bndE hf
    obtain ⟨-, hf⟩ := m_chkE hf
    obtain ⟨b4, -, hf⟩ := m_calE hf
    obtain ⟨-, hf⟩ := m_chkE hf
    obtain ⟨b5, -, hf⟩ := m_calE hf
    obtain ⟨-, hf⟩ := m_chkE hf
    obtain ⟨o6, -, hf⟩ := m_calE hf
    obtain ⟨-, hf⟩ := m_chkE hf
    cases hf
    exact Or.inl rfl
theorem kd_X11_go {o : (Nat × Int32) × ZS} {x0 : Nat} {x1 : Int32} {S : ZS} (hf : d_X11_go x0 x1 S = some o) : o.1.1 = 0 ∨ o.1.1 = 2 := by
  unfold d_X11_go at hf
  exact kd_X11_go_0 hf
theorem kd_X11_man_10 {o : (Nat × Int32) × ZS} {S : ZS} (hf : d_X11_man_10 S = some o) : o.1.1 = 0 ∨ o.1.1 = 2 := by
  unfold d_X11_man_10 at hf
  cases hf
  exact Or.inr rfl
theorem kd_X11_man_0 {o : (Nat × Int32) × ZS} {x0 : Nat} {x1 : Int32} {S : ZS} (hf : d_X11_man_0 x0 x1 S = some o) : o.1.1 = 0 ∨ o.1.1 = 2 := by
  unfold d_X11_man_0 at hf
  rcases m_ifE hf with ⟨-, hf⟩ | ⟨-, hf⟩
  · skip
    exact kd_X11_man_10 hf
  · skip
    rcases m_ifE hf with ⟨-, hf⟩ | ⟨-, hf⟩
    · skip
      obtain ⟨-, hf⟩ := m_chkE hf
      obtain ⟨b1, -, hf⟩ := m_calE hf
      obtain ⟨-, hf⟩ := m_chkE hf
      obtain ⟨b2, -, hf⟩ := m_calE hf
      obtain ⟨-, hf⟩ := m_chkE hf
      obtain ⟨-, hf⟩ := m_chkE hf
      obtain ⟨v3, -, hf⟩ := m_bndE hf
      cases hf
      exact Or.inl rfl
    · skip
      exact kd_X11_man_10 hf
theorem kd_X11_man {o : (Nat × Int32) × ZS} {x0 : Nat} {x1 : Int32} {S : ZS} (hf : d_X11_man x0 x1 S = some o) : o.1.1 = 0 ∨ o.1.1 = 2 := by
  unfold d_X11_man at hf
  exact kd_X11_man_0 hf
theorem kd_X11_add_95 {o : (Nat × Int32) × ZS} {x0 : Nat} {x1 : Int32} {x2 : Int32} {S : ZS} (hf : d_X11_add_95 x0 x1 x2 S = some o) : o.1.1 = 0 ∨ o.1.1 = 1 ∨ o.1.1 = 3 := by
  unfold d_X11_add_95 at hf
  obtain ⟨-, hf⟩ := m_chkE hf
  obtain ⟨S1, -, hf⟩ := m_bndE hf
  obtain ⟨-, hf⟩ := m_chkE hf
  obtain ⟨b2, -, hf⟩ := m_calE hf
  obtain ⟨-, hf⟩ := m_chkE hf
  obtain ⟨o3, -, hf⟩ := m_calE hf
  obtain ⟨-, hf⟩ := m_chkE hf
  cases hf
  exact Or.inl rfl
theorem kd_X11_add_72 {o : (Nat × Int32) × ZS} {S : ZS} (hf : d_X11_add_72 S = some o) : o.1.1 = 0 ∨ o.1.1 = 1 ∨ o.1.1 = 3 := by
  unfold d_X11_add_72 at hf
  cases hf
  exact Or.inr (Or.inr rfl)
theorem kd_X11_add_0 {o : (Nat × Int32) × ZS} {x0 : Nat} {x1 : Int32} {S : ZS} (hf : d_X11_add_0 x0 x1 S = some o) : o.1.1 = 0 ∨ o.1.1 = 1 ∨ o.1.1 = 3 := by
  unfold d_X11_add_0 at hf
  obtain ⟨-, hf⟩ := m_chkE hf
  obtain ⟨b1, -, hf⟩ := m_calE hf
  obtain ⟨-, hf⟩ := m_chkE hf
  obtain ⟨b2, -, hf⟩ := m_calE hf
  obtain ⟨-, hf⟩ := m_chkE hf
  obtain ⟨o3, -, hf⟩ := m_calE hf
  obtain ⟨-, hf⟩ := m_chkE hf
  rcases m_ifE hf with ⟨-, hf⟩ | ⟨-, hf⟩
  · skip
    cases hf
    exact Or.inr (Or.inl rfl)
  · skip
    obtain ⟨-, hf⟩ := m_chkE hf
    obtain ⟨b4, -, hf⟩ := m_calE hf
    obtain ⟨-, hf⟩ := m_chkE hf
    obtain ⟨-, hf⟩ := m_chkE hf
    obtain ⟨o5, -, hf⟩ := m_calE hf
    obtain ⟨-, hf⟩ := m_chkE hf
    rcases m_ifE hf with ⟨-, hf⟩ | ⟨-, hf⟩
    · skip
      obtain ⟨-, hf⟩ := m_chkE hf
      obtain ⟨b6, -, hf⟩ := m_calE hf
      obtain ⟨-, hf⟩ := m_chkE hf
      rcases m_ifE hf with ⟨-, hf⟩ | ⟨-, hf⟩
      · skip
        exact kd_X11_add_72 hf
      · skip
        obtain ⟨-, hf⟩ := m_chkE hf
        obtain ⟨b7, -, hf⟩ := m_calE hf
        obtain ⟨-, hf⟩ := m_chkE hf
        obtain ⟨-, hf⟩ := m_chkE hf
        obtain ⟨o8, -, hf⟩ := m_calE hf
        obtain ⟨-, hf⟩ := m_chkE hf
        rcases m_ifE hf with ⟨-, hf⟩ | ⟨-, hf⟩
        · skip
          obtain ⟨-, hf⟩ := m_chkE hf
          obtain ⟨b9, -, hf⟩ := m_calE hf
          obtain ⟨-, hf⟩ := m_chkE hf
          obtain ⟨-, hf⟩ := m_chkE hf
          obtain ⟨⟨r11, S12⟩, -, hf⟩ := m_cal2E hf
          exact kd_X11_add_95 hf
        · skip
          exact kd_X11_add_72 hf
    · skip
      exact kd_X11_add_95 hf
theorem kd_X11_add {o : (Nat × Int32) × ZS} {x0 : Nat} {x1 : Int32} {S : ZS} (hf : d_X11_add x0 x1 S = some o) : o.1.1 = 0 ∨ o.1.1 = 1 ∨ o.1.1 = 3 := by
  unfold d_X11_add at hf
  exact kd_X11_add_0 hf
theorem kd_X11_addMark_11 {o : (Nat × Int32) × ZS} {S : ZS} (hf : d_X11_addMark_11 S = some o) : o.1.1 = 0 ∨ o.1.1 = 1 ∨ o.1.1 = 4 := by
  unfold d_X11_addMark_11 at hf
  cases hf
  exact Or.inr (Or.inl rfl)
theorem kd_X11_addMark_48 {o : (Nat × Int32) × ZS} {S : ZS} (hf : d_X11_addMark_48 S = some o) : o.1.1 = 0 ∨ o.1.1 = 1 ∨ o.1.1 = 4 := by
  unfold d_X11_addMark_48 at hf
  cases hf
  exact Or.inr (Or.inr rfl)
theorem kd_X11_addMark_0 {o : (Nat × Int32) × ZS} {x0 : Nat} {x1 : Int32} {S : ZS} (hf : d_X11_addMark_0 x0 x1 S = some o) : o.1.1 = 0 ∨ o.1.1 = 1 ∨ o.1.1 = 4 := by
  unfold d_X11_addMark_0 at hf
  rcases m_ifE hf with ⟨-, hf⟩ | ⟨-, hf⟩
  · skip
    exact kd_X11_addMark_11 hf
  · skip
    rcases m_ifE hf with ⟨-, hf⟩ | ⟨-, hf⟩
    · skip
      obtain ⟨-, hf⟩ := m_chkE hf
      obtain ⟨b1, -, hf⟩ := m_calE hf
      obtain ⟨-, hf⟩ := m_chkE hf
      obtain ⟨-, hf⟩ := m_chkE hf
      obtain ⟨o2, -, hf⟩ := m_calE hf
      obtain ⟨-, hf⟩ := m_chkE hf
      obtain ⟨-, hf⟩ := m_chkE hf
      rcases m_ifE hf with ⟨-, hf⟩ | ⟨-, hf⟩
      · skip
        exact kd_X11_addMark_48 hf
      · skip
        obtain ⟨-, hf⟩ := m_chkE hf
        rcases m_ifE hf with ⟨-, hf⟩ | ⟨-, hf⟩
        · skip
          obtain ⟨-, hf⟩ := m_chkE hf
          obtain ⟨o3, -, hf⟩ := m_calE hf
          obtain ⟨-, hf⟩ := m_chkE hf
          obtain ⟨-, hf⟩ := m_chkE hf
          cases hf
          exact Or.inl rfl
        · skip
          exact kd_X11_addMark_48 hf
    · skip
      exact kd_X11_addMark_11 hf
theorem kd_X11_addMark {o : (Nat × Int32) × ZS} {x0 : Nat} {x1 : Int32} {S : ZS} (hf : d_X11_addMark x0 x1 S = some o) : o.1.1 = 0 ∨ o.1.1 = 1 ∨ o.1.1 = 4 := by
  unfold d_X11_addMark at hf
  exact kd_X11_addMark_0 hf
theorem kd_X11_say_43 {o : (Nat × Int32) × ZS} {S : ZS} (hf : d_X11_say_43 S = some o) : o.1.1 = 0 ∨ o.1.1 = 1 := by
  unfold d_X11_say_43 at hf
  cases hf
  exact Or.inr rfl
theorem kd_X11_say_0 {o : (Nat × Int32) × ZS} {x0 : Nat} {S : ZS} (hf : d_X11_say_0 x0 S = some o) : o.1.1 = 0 ∨ o.1.1 = 1 := by
  unfold d_X11_say_0 at hf
  obtain ⟨-, hf⟩ := m_chkE hf
  obtain ⟨b1, -, hf⟩ := m_calE hf
  obtain ⟨-, hf⟩ := m_chkE hf
  obtain ⟨o2, -, hf⟩ := m_calE hf
  obtain ⟨-, hf⟩ := m_chkE hf
  rcases m_ifE hf with ⟨-, hf⟩ | ⟨-, hf⟩
  · skip
    exact kd_X11_say_43 hf
  · skip
    obtain ⟨-, hf⟩ := m_chkE hf
    obtain ⟨b3, -, hf⟩ := m_calE hf
    obtain ⟨-, hf⟩ := m_chkE hf
    obtain ⟨o4, -, hf⟩ := m_calE hf
    obtain ⟨-, hf⟩ := m_chkE hf
    rcases m_ifE hf with ⟨-, hf⟩ | ⟨-, hf⟩
    · skip
      exact kd_X11_say_43 hf
    · skip
      obtain ⟨-, hf⟩ := m_chkE hf
      obtain ⟨b5, -, hf⟩ := m_calE hf
      obtain ⟨-, hf⟩ := m_chkE hf
      obtain ⟨o6, -, hf⟩ := m_calE hf
      obtain ⟨-, hf⟩ := m_chkE hf
      rcases m_ifE hf with ⟨-, hf⟩ | ⟨-, hf⟩
      · skip
        obtain ⟨-, hf⟩ := m_chkE hf
        obtain ⟨b7, -, hf⟩ := m_calE hf
        obtain ⟨-, hf⟩ := m_chkE hf
        obtain ⟨-, hf⟩ := m_chkE hf
        obtain ⟨o8, -, hf⟩ := m_calE hf
        obtain ⟨-, hf⟩ := m_chkE hf
        obtain ⟨-, hf⟩ := m_chkE hf
        obtain ⟨b9, -, hf⟩ := m_calE hf
        obtain ⟨-, hf⟩ := m_chkE hf
        obtain ⟨b10, -, hf⟩ := m_calE hf
        obtain ⟨-, hf⟩ := m_chkE hf
        obtain ⟨⟨r12, S13⟩, -, hf⟩ := m_cal2E hf
        obtain ⟨-, hf⟩ := m_chkE hf
        obtain ⟨b16, -, hf⟩ := m_calE hf
        obtain ⟨-, hf⟩ := m_chkE hf
        obtain ⟨o17, -, hf⟩ := m_calE hf
        obtain ⟨-, hf⟩ := m_chkE hf
        cases hf
        exact Or.inl rfl
      · skip
        exact kd_X11_say_43 hf
theorem kd_X11_say {o : (Nat × Int32) × ZS} {x0 : Nat} {S : ZS} (hf : d_X11_say x0 S = some o) : o.1.1 = 0 ∨ o.1.1 = 1 := by
  unfold d_X11_say at hf
  exact kd_X11_say_0 hf
theorem kd_X11_lead_0 {o : (Nat × Int32) × ZS} {x0 : Nat} {S : ZS} (hf : d_X11_lead_0 x0 S = some o) : o.1.1 = 0 ∨ o.1.1 = 4 := by
  unfold d_X11_lead_0 at hf
  obtain ⟨-, hf⟩ := m_chkE hf
  rcases m_ifE hf with ⟨-, hf⟩ | ⟨-, hf⟩
  · skip
    cases hf
    exact Or.inr rfl
  · skip
    obtain ⟨-, hf⟩ := m_chkE hf
    obtain ⟨b1, -, hf⟩ := m_calE hf
    obtain ⟨-, hf⟩ := m_chkE hf
    obtain ⟨-, hf⟩ := m_chkE hf
    obtain ⟨o2, -, hf⟩ := m_calE hf
    obtain ⟨-, hf⟩ := m_chkE hf
    rcases m_ifE hf with ⟨-, hf⟩ | ⟨-, hf⟩
    · skip
      obtain ⟨-, hf⟩ := m_chkE hf
      obtain ⟨b3, -, hf⟩ := m_calE hf
      obtain ⟨-, hf⟩ := m_chkE hf
      obtain ⟨-, hf⟩ := m_chkE hf
      obtain ⟨o4, -, hf⟩ := m_calE hf
      obtain ⟨-, hf⟩ := m_chkE hf
      rcases m_ifE hf with ⟨-, hf⟩ | ⟨-, hf⟩
      · skip
        cases hf
        exact Or.inr rfl
      · skip
        obtain ⟨-, hf⟩ := m_chkE hf
        obtain ⟨b5, -, hf⟩ := m_calE hf
        obtain ⟨-, hf⟩ := m_chkE hf
        obtain ⟨-, hf⟩ := m_chkE hf
        obtain ⟨o6, -, hf⟩ := m_calE hf
        obtain ⟨-, hf⟩ := m_chkE hf
        obtain ⟨-, hf⟩ := m_chkE hf
        cases hf
        exact Or.inl rfl
    · skip
      obtain ⟨-, hf⟩ := m_chkE hf
      cases hf
      exact Or.inl rfl
theorem kd_X11_lead {o : (Nat × Int32) × ZS} {x0 : Nat} {S : ZS} (hf : d_X11_lead x0 S = some o) : o.1.1 = 0 ∨ o.1.1 = 4 := by
  unfold d_X11_lead at hf
  exact kd_X11_lead_0 hf
theorem kd_X11_end_9 {o : (Nat × Int32) × ZS} {S : ZS} (hf : d_X11_end_9 S = some o) : o.1.1 = 0 ∨ o.1.1 = 1 := by
  unfold d_X11_end_9 at hf
  cases hf
  exact Or.inr rfl
theorem kd_X11_end_0 {o : (Nat × Int32) × ZS} {x0 : Nat} {x1 : Int32} {S : ZS} (hf : d_X11_end_0 x0 x1 S = some o) : o.1.1 = 0 ∨ o.1.1 = 1 := by
  unfold d_X11_end_0 at hf
  rcases m_ifE hf with ⟨-, hf⟩ | ⟨-, hf⟩
  · skip
    exact kd_X11_end_9 hf
  · skip
    rcases m_ifE hf with ⟨-, hf⟩ | ⟨-, hf⟩
    · skip
      obtain ⟨-, hf⟩ := m_chkE hf
      obtain ⟨b1, -, hf⟩ := m_calE hf
      obtain ⟨-, hf⟩ := m_chkE hf
      obtain ⟨S2, -, hf⟩ := m_bndE hf
      cases hf
      exact Or.inl rfl
    · skip
      exact kd_X11_end_9 hf
theorem kd_X11_end {o : (Nat × Int32) × ZS} {x0 : Nat} {x1 : Int32} {S : ZS} (hf : d_X11_end x0 x1 S = some o) : o.1.1 = 0 ∨ o.1.1 = 1 := by
  unfold d_X11_end at hf
  exact kd_X11_end_0 hf
theorem kd_X11_tag_19 {o : (Nat × Int32) × ZS} {S : ZS} (hf : d_X11_tag_19 S = some o) : o.1.1 = 0 ∨ o.1.1 = 2 := by
  unfold d_X11_tag_19 at hf
  cases hf
  exact Or.inr rfl
theorem kd_X11_tag_65 {o : (Nat × Int32) × ZS} {t0 : Int32} {S : ZS} (hf : d_X11_tag_65 t0 S = some o) : o.1.1 = 0 ∨ o.1.1 = 2 := by
  unfold d_X11_tag_65 at hf
  cases hf
  exact Or.inl rfl
theorem kd_X11_tag_0 {o : (Nat × Int32) × ZS} {x0 : Nat} {x1 : Int32} {x2 : Int32} {x3 : Int32} {S : ZS} (hf : d_X11_tag_0 x0 x1 x2 x3 S = some o) : o.1.1 = 0 ∨ o.1.1 = 2 := by
  unfold d_X11_tag_0 at hf
  rcases m_ifE hf with ⟨-, hf⟩ | ⟨-, hf⟩
  · skip
    exact kd_X11_tag_19 hf
  · skip
    obtain ⟨-, hf⟩ := m_chkE hf
    obtain ⟨b1, -, hf⟩ := m_calE hf
    obtain ⟨-, hf⟩ := m_chkE hf
    rcases m_ifE hf with ⟨-, hf⟩ | ⟨-, hf⟩
    · skip
      exact kd_X11_tag_19 hf
    · skip
      rcases m_ifE hf with ⟨-, hf⟩ | ⟨-, hf⟩
      · skip
        obtain ⟨-, hf⟩ := m_chkE hf
        obtain ⟨b2, -, hf⟩ := m_calE hf
        obtain ⟨-, hf⟩ := m_chkE hf
        obtain ⟨⟨r4, S5⟩, -, hf⟩ := m_cal2E hf
        rcases m_ifE hf with ⟨-, hf⟩ | ⟨-, hf⟩
        · skip
          obtain ⟨-, hf⟩ := m_chkE hf
          obtain ⟨b8, -, hf⟩ := m_calE hf
          obtain ⟨-, hf⟩ := m_chkE hf
          obtain ⟨o9, -, hf⟩ := m_calE hf
          obtain ⟨-, hf⟩ := m_chkE hf
          exact kd_X11_tag_65 hf
        · skip
          obtain ⟨-, hf⟩ := m_chkE hf
          obtain ⟨b10, -, hf⟩ := m_calE hf
          obtain ⟨-, hf⟩ := m_chkE hf
          obtain ⟨o11, -, hf⟩ := m_calE hf
          obtain ⟨-, hf⟩ := m_chkE hf
          exact kd_X11_tag_65 hf
      · skip
        exact kd_X11_tag_19 hf
theorem kd_X11_tag {o : (Nat × Int32) × ZS} {x0 : Nat} {x1 : Int32} {x2 : Int32} {x3 : Int32} {S : ZS} (hf : d_X11_tag x0 x1 x2 x3 S = some o) : o.1.1 = 0 ∨ o.1.1 = 2 := by
  unfold d_X11_tag at hf
  exact kd_X11_tag_0 hf
end
section
theorem m_calY {α β : Type} {e : Option α} {k : α → Option β} {r : β} {c : α} (hf : m_cal e k = some r) (he : e = some c) : k c = some r := by
  rw [he] at hf; exact hf
theorem m_calR {α β : Type} {e : Option (α × ZS)} {k : α × ZS → Option β} {r : β} {S : ZS} (hf : m_cal e k = some r) (he : ∀ x, e = some x → x.2 = S) : ∃ y : α, e = some (y, S) ∧ k (y, S) = some r := by
  obtain ⟨⟨y, T⟩, h1, h2⟩ := m_calE hf
  have h3 := he _ h1
  dsimp only at h3
  subst h3
  exact ⟨y, h1, h2⟩
theorem m_clR {γ : Type} {e : Option (Int32 × MS)} {k : Int32 → (Nat → Int32) → (Nat → Nat → Int32) → Option γ} {r : γ} {I : Nat → Int32} {A : Nat → Nat → Int32} (hf : m_cl e k = some r) (he : ∀ x, e = some x → x.2 = (I, A)) : ∃ y : Int32, e = some (y, (I, A)) ∧ k y I A = some r := by
  obtain ⟨⟨y, T, U⟩, h1, h2⟩ := m_clE hf
  have h3 := he _ h1
  dsimp only at h3
  cases h3
  exact ⟨y, h1, h2⟩
theorem ms_ext {o : Int32 × MS} {I : Nat → Int32} {A : Nat → Nat → Int32} (h : FrS [] [] I A o.2.1 o.2.2) : o.2 = (I, A) := by
  obtain ⟨r, T, U⟩ := o
  have h1 : T = I := funext (fun i => h.1 i (fun h9 => by cases h9))
  have h2 : U = A := funext (fun j => h.2 j (fun h9 => by cases h9))
  subst h1
  subst h2
  rfl

theorem ro_X0_kindAt_0 {o : Int32 × ZS} {x0 : Nat} {x1 : Int32} {S : ZS}  (hf : f_X0_kindAt_0 x0 x1 S = some o) : o.2 = S := by
  have h_S : S = S := rfl
  unfold f_X0_kindAt_0 at hf
  obtain ⟨-, hf⟩ := m_chkE hf
  obtain ⟨b1, -, hf⟩ := m_calE hf
  obtain ⟨-, hf⟩ := m_chkE hf
  obtain ⟨-, hf⟩ := m_chkE hf
  obtain ⟨v2, -, hf⟩ := m_bndE hf
  obtain ⟨v3, -, hf⟩ := m_bndE hf
  cases hf
  exact h_S
theorem ro_X0_kindAt {o : Int32 × ZS} {x0 : Nat} {x1 : Int32} {S : ZS}  (hf : f_X0_kindAt x0 x1 S = some o) : o.2 = S := by
  have h_S : S = S := rfl
  unfold f_X0_kindAt at hf
  exact (ro_X0_kindAt_0  hf).trans h_S
theorem ro_X0_kingOf_15 {o : Int32 × ZS} {t0 : Int32} {S : ZS}  (hf : f_X0_kingOf_15 t0 S = some o) : o.2 = S := by
  have h_S : S = S := rfl
  unfold f_X0_kingOf_15 at hf
  cases hf
  exact h_S
theorem ro_X0_kingOf_0 {o : Int32 × ZS} {x0 : Nat} {x1 : Int32} {S : ZS}  (hf : f_X0_kingOf_0 x0 x1 S = some o) : o.2 = S := by
  have h_S : S = S := rfl
  unfold f_X0_kingOf_0 at hf
  rcases m_ifE hf with ⟨-, hf⟩ | ⟨-, hf⟩
  ·
    obtain ⟨-, hf⟩ := m_chkE hf
    exact (ro_X0_kingOf_15  hf).trans h_S
  ·
    obtain ⟨-, hf⟩ := m_chkE hf
    exact (ro_X0_kingOf_15  hf).trans h_S
theorem ro_X0_kingOf {o : Int32 × ZS} {x0 : Nat} {x1 : Int32} {S : ZS}  (hf : f_X0_kingOf x0 x1 S = some o) : o.2 = S := by
  have h_S : S = S := rfl
  unfold f_X0_kingOf at hf
  exact (ro_X0_kingOf_0  hf).trans h_S
theorem ro_X0_attacks_235 {o : Int32 × ZS} {S : ZS}  (hf : f_X0_attacks_235 S = some o) : o.2 = S := by
  have h_S : S = S := rfl
  unfold f_X0_attacks_235 at hf
  obtain ⟨-, hf⟩ := m_chkE hf
  cases hf
  exact h_S
theorem ro_X0_attacks_281s {o : Int32 × ZS} {self281 : Nat → Int32 → Int32 → Int32 → Int32 → ZS → Option (Int32 × ZS)} {x0 : Nat} {x1 : Int32} {x8 : Int32} {x11 : Int32} {x12 : Int32} {S : ZS} (hself281 : ∀ (z0 : Nat) (z1 : Int32) (z2 : Int32) (z3 : Int32) (z4 : Int32) (S : ZS) (o : Int32 × ZS), self281 z0 z1 z2 z3 z4 S = some o → o.2 = S) (hf : f_X0_attacks_281s self281 x0 x1 x8 x11 x12 S = some o) : o.2 = S := by
  have h_S : S = S := rfl
  unfold f_X0_attacks_281s at hf
  rcases m_ifE hf with ⟨-, hf⟩ | ⟨-, hf⟩
  ·
    obtain ⟨-, hf⟩ := m_chkE hf
    cases hf
    exact h_S
  ·
    obtain ⟨-, hf⟩ := m_chkE hf
    obtain ⟨b1, -, hf⟩ := m_calE hf
    obtain ⟨v2, -, hf⟩ := m_bndE hf
    obtain ⟨v3, -, hf⟩ := m_bndE hf
    obtain ⟨-, hf⟩ := m_chkE hf
    obtain ⟨-, hf⟩ := m_chkE hf
    obtain ⟨v4, -, hf⟩ := m_bndE hf
    rcases m_ifE hf with ⟨-, hf⟩ | ⟨-, hf⟩
    ·
      obtain ⟨v5, -, hf⟩ := m_bndE hf
      exact (hself281 _ _ _ _ _ _ _ hf).trans h_S
    ·
      obtain ⟨-, hf⟩ := m_chkE hf
      cases hf
      exact h_S
theorem ro_X0_attacks_281   (n : Nat) : ∀ (y0 : Nat) (y1 : Int32) (y2 : Int32) (y3 : Int32) (y4 : Int32) (S : ZS) (o : Int32 × ZS), f_X0_attacks_281  n y0 y1 y2 y3 y4 S = some o → o.2 = S := by
  induction n with
  | zero => intro y0 y1 y2 y3 y4 S o hf; cases hf
  | succ n ih => intro y0 y1 y2 y3 y4 S o hf; exact ro_X0_attacks_281s  ih hf
theorem ro_X0_attacks_275 {o : Int32 × ZS} {x0 : Nat} {x1 : Int32} {x8 : Int32} {t0 : Int32} {t1 : Int32} {S : ZS}  (hf : f_X0_attacks_275 x0 x1 x8 t0 t1 S = some o) : o.2 = S := by
  have h_S : S = S := rfl
  unfold f_X0_attacks_275 at hf
  obtain ⟨v1, -, hf⟩ := m_bndE hf
  exact (ro_X0_attacks_281  _ _ _ _ _ _ _ _ hf).trans h_S
theorem ro_X0_attacks_254 {o : Int32 × ZS} {x0 : Nat} {x1 : Int32} {x4 : Int32} {x8 : Int32} {t0 : Int32} {S : ZS}  (hf : f_X0_attacks_254 x0 x1 x4 x8 t0 S = some o) : o.2 = S := by
  have h_S : S = S := rfl
  unfold f_X0_attacks_254 at hf
  rcases m_ifE hf with ⟨-, hf⟩ | ⟨-, hf⟩
  ·
    rcases m_ifE hf with ⟨-, hf⟩ | ⟨-, hf⟩
    ·
      exact (ro_X0_attacks_275  hf).trans h_S
    ·
      exact (ro_X0_attacks_275  hf).trans h_S
  ·
    exact (ro_X0_attacks_275  hf).trans h_S
theorem ro_X0_attacks_223 {o : Int32 × ZS} {x0 : Nat} {x1 : Int32} {x3 : Int32} {x4 : Int32} {x8 : Int32} {t0 : Int32} {S : ZS}  (hf : f_X0_attacks_223 x0 x1 x3 x4 x8 t0 S = some o) : o.2 = S := by
  have h_S : S = S := rfl
  unfold f_X0_attacks_223 at hf
  rcases m_ifE hf with ⟨-, hf⟩ | ⟨-, hf⟩
  ·
    exact (ro_X0_attacks_235  hf).trans h_S
  ·
    rcases m_ifE hf with ⟨-, hf⟩ | ⟨-, hf⟩
    ·
      exact (ro_X0_attacks_235  hf).trans h_S
    ·
      rcases m_ifE hf with ⟨-, hf⟩ | ⟨-, hf⟩
      ·
        rcases m_ifE hf with ⟨-, hf⟩ | ⟨-, hf⟩
        ·
          exact (ro_X0_attacks_254  hf).trans h_S
        ·
          exact (ro_X0_attacks_254  hf).trans h_S
      ·
        exact (ro_X0_attacks_254  hf).trans h_S
theorem ro_X0_attacks_222 {o : Int32 × ZS} {x0 : Nat} {x1 : Int32} {x3 : Int32} {x4 : Int32} {x8 : Int32} {S : ZS}  (hf : f_X0_attacks_222 x0 x1 x3 x4 x8 S = some o) : o.2 = S := by
  have h_S : S = S := rfl
  unfold f_X0_attacks_222 at hf
  exact (ro_X0_attacks_223  hf).trans h_S
theorem ro_X0_attacks_218 {o : Int32 × ZS} {x0 : Nat} {x1 : Int32} {x3 : Int32} {x4 : Int32} {x8 : Int32} {S : ZS}  (hf : f_X0_attacks_218 x0 x1 x3 x4 x8 S = some o) : o.2 = S := by
  have h_S : S = S := rfl
  unfold f_X0_attacks_218 at hf
  exact (ro_X0_attacks_223  hf).trans h_S
theorem ro_X0_attacks_191 {o : Int32 × ZS} {x0 : Nat} {x1 : Int32} {x3 : Int32} {x4 : Int32} {x8 : Int32} {S : ZS}  (hf : f_X0_attacks_191 x0 x1 x3 x4 x8 S = some o) : o.2 = S := by
  have h_S : S = S := rfl
  unfold f_X0_attacks_191 at hf
  exact (ro_X0_attacks_223  hf).trans h_S
theorem ro_X0_attacks_172 {o : Int32 × ZS} {x0 : Nat} {x1 : Int32} {x3 : Int32} {x4 : Int32} {x5 : Int32} {x6 : Int32} {x7 : Int32} {x8 : Int32} {t0 : Int32} {S : ZS}  (hf : f_X0_attacks_172 x0 x1 x3 x4 x5 x6 x7 x8 t0 S = some o) : o.2 = S := by
  have h_S : S = S := rfl
  unfold f_X0_attacks_172 at hf
  rcases m_ifE hf with ⟨-, hf⟩ | ⟨-, hf⟩
  ·
    rcases m_ifE hf with ⟨-, hf⟩ | ⟨-, hf⟩
    ·
      rcases m_ifE hf with ⟨-, hf⟩ | ⟨-, hf⟩
      ·
        exact (ro_X0_attacks_218  hf).trans h_S
      ·
        rcases m_ifE hf with ⟨-, hf⟩ | ⟨-, hf⟩
        ·
          exact (ro_X0_attacks_218  hf).trans h_S
        ·
          exact (ro_X0_attacks_222  hf).trans h_S
    ·
      exact (ro_X0_attacks_222  hf).trans h_S
  ·
    rcases m_ifE hf with ⟨-, hf⟩ | ⟨-, hf⟩
    ·
      exact (ro_X0_attacks_191  hf).trans h_S
    ·
      rcases m_ifE hf with ⟨-, hf⟩ | ⟨-, hf⟩
      ·
        exact (ro_X0_attacks_191  hf).trans h_S
      ·
        exact (ro_X0_attacks_223  hf).trans h_S
theorem ro_X0_attacks_167 {o : Int32 × ZS} {x0 : Nat} {x1 : Int32} {x3 : Int32} {x4 : Int32} {x5 : Int32} {x6 : Int32} {x7 : Int32} {x8 : Int32} {S : ZS}  (hf : f_X0_attacks_167 x0 x1 x3 x4 x5 x6 x7 x8 S = some o) : o.2 = S := by
  have h_S : S = S := rfl
  unfold f_X0_attacks_167 at hf
  exact (ro_X0_attacks_172  hf).trans h_S
theorem ro_X0_attacks_156 {o : Int32 × ZS} {t0 : Int32} {S : ZS}  (hf : f_X0_attacks_156 t0 S = some o) : o.2 = S := by
  have h_S : S = S := rfl
  unfold f_X0_attacks_156 at hf
  obtain ⟨-, hf⟩ := m_chkE hf
  cases hf
  exact h_S
theorem ro_X0_attacks_136 {o : Int32 × ZS} {x0 : Nat} {x1 : Int32} {x3 : Int32} {x4 : Int32} {x5 : Int32} {x6 : Int32} {x7 : Int32} {t0 : Int32} {S : ZS}  (hf : f_X0_attacks_136 x0 x1 x3 x4 x5 x6 x7 t0 S = some o) : o.2 = S := by
  have h_S : S = S := rfl
  unfold f_X0_attacks_136 at hf
  rcases m_ifE hf with ⟨-, hf⟩ | ⟨-, hf⟩
  ·
    rcases m_ifE hf with ⟨-, hf⟩ | ⟨-, hf⟩
    ·
      exact (ro_X0_attacks_156  hf).trans h_S
    ·
      exact (ro_X0_attacks_156  hf).trans h_S
  ·
    rcases m_ifE hf with ⟨-, hf⟩ | ⟨-, hf⟩
    ·
      exact (ro_X0_attacks_167  hf).trans h_S
    ·
      rcases m_ifE hf with ⟨-, hf⟩ | ⟨-, hf⟩
      ·
        exact (ro_X0_attacks_167  hf).trans h_S
      ·
        exact (ro_X0_attacks_172  hf).trans h_S
theorem ro_X0_attacks_120 {o : Int32 × ZS} {x0 : Nat} {x1 : Int32} {x3 : Int32} {x4 : Int32} {x5 : Int32} {x6 : Int32} {t0 : Int32} {S : ZS}  (hf : f_X0_attacks_120 x0 x1 x3 x4 x5 x6 t0 S = some o) : o.2 = S := by
  have h_S : S = S := rfl
  unfold f_X0_attacks_120 at hf
  rcases m_ifE hf with ⟨-, hf⟩ | ⟨-, hf⟩
  ·
    exact (ro_X0_attacks_136  hf).trans h_S
  ·
    exact (ro_X0_attacks_136  hf).trans h_S
theorem ro_X0_attacks_105 {o : Int32 × ZS} {x0 : Nat} {x1 : Int32} {x3 : Int32} {x4 : Int32} {x5 : Int32} {t0 : Int32} {S : ZS}  (hf : f_X0_attacks_105 x0 x1 x3 x4 x5 t0 S = some o) : o.2 = S := by
  have h_S : S = S := rfl
  unfold f_X0_attacks_105 at hf
  rcases m_ifE hf with ⟨-, hf⟩ | ⟨-, hf⟩
  ·
    exact (ro_X0_attacks_120  hf).trans h_S
  ·
    obtain ⟨v1, -, hf⟩ := m_bndE hf
    exact (ro_X0_attacks_120  hf).trans h_S
theorem ro_X0_attacks_94 {o : Int32 × ZS} {t0 : Int32} {S : ZS}  (hf : f_X0_attacks_94 t0 S = some o) : o.2 = S := by
  have h_S : S = S := rfl
  unfold f_X0_attacks_94 at hf
  obtain ⟨-, hf⟩ := m_chkE hf
  cases hf
  exact h_S
theorem ro_X0_attacks_69 {o : Int32 × ZS} {t0 : Int32} {S : ZS}  (hf : f_X0_attacks_69 t0 S = some o) : o.2 = S := by
  have h_S : S = S := rfl
  unfold f_X0_attacks_69 at hf
  obtain ⟨-, hf⟩ := m_chkE hf
  cases hf
  exact h_S
theorem ro_X0_attacks_68 {o : Int32 × ZS} {S : ZS}  (hf : f_X0_attacks_68 S = some o) : o.2 = S := by
  have h_S : S = S := rfl
  unfold f_X0_attacks_68 at hf
  exact (ro_X0_attacks_69  hf).trans h_S
theorem ro_X0_attacks_54 {o : Int32 × ZS} {x3 : Int32} {t0 : Int32} {t1 : Int32} {S : ZS}  (hf : f_X0_attacks_54 x3 t0 t1 S = some o) : o.2 = S := by
  have h_S : S = S := rfl
  unfold f_X0_attacks_54 at hf
  rcases m_ifE hf with ⟨-, hf⟩ | ⟨-, hf⟩
  ·
    obtain ⟨v1, -, hf⟩ := m_bndE hf
    rcases m_ifE hf with ⟨-, hf⟩ | ⟨-, hf⟩
    ·
      exact (ro_X0_attacks_69  hf).trans h_S
    ·
      exact (ro_X0_attacks_68  hf).trans h_S
  ·
    exact (ro_X0_attacks_68  hf).trans h_S
theorem ro_X0_attacks_0 {o : Int32 × ZS} {x0 : Nat} {x1 : Int32} {x2 : Int32} {S : ZS}  (hf : f_X0_attacks_0 x0 x1 x2 S = some o) : o.2 = S := by
  have h_S : S = S := rfl
  unfold f_X0_attacks_0 at hf
  obtain ⟨v1, -, hf⟩ := m_bndE hf
  obtain ⟨v2, -, hf⟩ := m_bndE hf
  obtain ⟨v3, -, hf⟩ := m_bndE hf
  obtain ⟨v4, -, hf⟩ := m_bndE hf
  obtain ⟨v5, -, hf⟩ := m_bndE hf
  obtain ⟨v6, -, hf⟩ := m_bndE hf
  obtain ⟨-, hf⟩ := m_chkE hf
  obtain ⟨b7, -, hf⟩ := m_calE hf
  obtain ⟨-, hf⟩ := m_chkE hf
  obtain ⟨-, hf⟩ := m_chkE hf
  obtain ⟨v8, -, hf⟩ := m_bndE hf
  obtain ⟨v9, -, hf⟩ := m_bndE hf
  rcases m_ifE hf with ⟨-, hf⟩ | ⟨-, hf⟩
  ·
    obtain ⟨-, hf⟩ := m_chkE hf
    obtain ⟨b14, -, hf⟩ := m_calE hf
    obtain ⟨-, hf⟩ := m_chkE hf
    obtain ⟨-, hf⟩ := m_chkE hf
    obtain ⟨v15, -, hf⟩ := m_bndE hf
    rcases m_ifE hf with ⟨-, hf⟩ | ⟨-, hf⟩
    ·
      exact (ro_X0_attacks_54  hf).trans h_S
    ·
      exact (ro_X0_attacks_54  hf).trans h_S
  ·
    rcases m_ifE hf with ⟨-, hf⟩ | ⟨-, hf⟩
    ·
      obtain ⟨v11, -, hf⟩ := m_bndE hf
      obtain ⟨v12, -, hf⟩ := m_bndE hf
      obtain ⟨v13, -, hf⟩ := m_bndE hf
      rcases m_ifE hf with ⟨-, hf⟩ | ⟨-, hf⟩
      ·
        exact (ro_X0_attacks_94  hf).trans h_S
      ·
        exact (ro_X0_attacks_94  hf).trans h_S
    ·
      rcases m_ifE hf with ⟨-, hf⟩ | ⟨-, hf⟩
      ·
        exact (ro_X0_attacks_105  hf).trans h_S
      ·
        obtain ⟨v10, -, hf⟩ := m_bndE hf
        exact (ro_X0_attacks_105  hf).trans h_S
theorem ro_X0_attacks {o : Int32 × ZS} {x0 : Nat} {x1 : Int32} {x2 : Int32} {S : ZS}  (hf : f_X0_attacks x0 x1 x2 S = some o) : o.2 = S := by
  have h_S : S = S := rfl
  unfold f_X0_attacks at hf
  exact (ro_X0_attacks_0  hf).trans h_S
theorem ro_X0_attacked_40 {o : Int32 × ZS} {self2 : Nat → Int32 → Int32 → Int32 → ZS → Option (Int32 × ZS)} {x0 : Nat} {x1 : Int32} {x2 : Int32} {x3 : Int32} {S : ZS} (hself2 : ∀ (z0 : Nat) (z1 : Int32) (z2 : Int32) (z3 : Int32) (S : ZS) (o : Int32 × ZS), self2 z0 z1 z2 z3 S = some o → o.2 = S) (hf : f_X0_attacked_40 self2 x0 x1 x2 x3 S = some o) : o.2 = S := by
  have h_S : S = S := rfl
  unfold f_X0_attacked_40 at hf
  obtain ⟨v1, -, hf⟩ := m_bndE hf
  exact (hself2 _ _ _ _ _ _ hf).trans h_S
theorem ro_X0_attacked_2s {o : Int32 × ZS} {self2 : Nat → Int32 → Int32 → Int32 → ZS → Option (Int32 × ZS)} {x0 : Nat} {x1 : Int32} {x2 : Int32} {x3 : Int32} {S : ZS} (hself2 : ∀ (z0 : Nat) (z1 : Int32) (z2 : Int32) (z3 : Int32) (S : ZS) (o : Int32 × ZS), self2 z0 z1 z2 z3 S = some o → o.2 = S) (hf : f_X0_attacked_2s self2 x0 x1 x2 x3 S = some o) : o.2 = S := by
  have h_S : S = S := rfl
  unfold f_X0_attacked_2s at hf
  rcases m_ifE hf with ⟨-, hf⟩ | ⟨-, hf⟩
  ·
    obtain ⟨-, hf⟩ := m_chkE hf
    cases hf
    exact h_S
  ·
    obtain ⟨-, hf⟩ := m_chkE hf
    obtain ⟨b1, -, hf⟩ := m_calE hf
    obtain ⟨-, hf⟩ := m_chkE hf
    obtain ⟨-, hf⟩ := m_chkE hf
    obtain ⟨v2, -, hf⟩ := m_bndE hf
    rcases m_ifE hf with ⟨-, hf⟩ | ⟨-, hf⟩
    ·
      exact (ro_X0_attacked_40 hself2 hf).trans h_S
    ·
      obtain ⟨-, hf⟩ := m_chkE hf
      obtain ⟨b3, -, hf⟩ := m_calE hf
      obtain ⟨-, hf⟩ := m_chkE hf
      obtain ⟨-, hf⟩ := m_chkE hf
      obtain ⟨v4, -, hf⟩ := m_bndE hf
      obtain ⟨v5, -, hf⟩ := m_bndE hf
      rcases m_ifE hf with ⟨-, hf⟩ | ⟨-, hf⟩
      ·
        obtain ⟨-, hf⟩ := m_chkE hf
        obtain ⟨o6, ho, hf⟩ := m_calE hf
        have h_o6 := (ro_X0_attacks ho).trans h_S
        clear ho
        rcases m_ifE hf with ⟨-, hf⟩ | ⟨-, hf⟩
        ·
          exact (ro_X0_attacked_40 hself2 hf).trans h_o6
        ·
          obtain ⟨-, hf⟩ := m_chkE hf
          cases hf
          exact h_o6
      ·
        exact (ro_X0_attacked_40 hself2 hf).trans h_S
theorem ro_X0_attacked_2   (n : Nat) : ∀ (y0 : Nat) (y1 : Int32) (y2 : Int32) (y3 : Int32) (S : ZS) (o : Int32 × ZS), f_X0_attacked_2  n y0 y1 y2 y3 S = some o → o.2 = S := by
  induction n with
  | zero => intro y0 y1 y2 y3 S o hf; cases hf
  | succ n ih => intro y0 y1 y2 y3 S o hf; exact ro_X0_attacked_2s  ih hf
theorem ro_X0_attacked_0 {o : Int32 × ZS} {x0 : Nat} {x1 : Int32} {x2 : Int32} {S : ZS}  (hf : f_X0_attacked_0 x0 x1 x2 S = some o) : o.2 = S := by
  have h_S : S = S := rfl
  unfold f_X0_attacked_0 at hf
  exact (ro_X0_attacked_2  _ _ _ _ _ _ _ hf).trans h_S
theorem ro_X0_attacked {o : Int32 × ZS} {x0 : Nat} {x1 : Int32} {x2 : Int32} {S : ZS}  (hf : f_X0_attacked x0 x1 x2 S = some o) : o.2 = S := by
  have h_S : S = S := rfl
  unfold f_X0_attacked at hf
  exact (ro_X0_attacked_0  hf).trans h_S
theorem ro_X0_pawnReaches_122 {o : Int32 × ZS} {t0 : Int32} {S : ZS}  (hf : f_X0_pawnReaches_122 t0 S = some o) : o.2 = S := by
  have h_S : S = S := rfl
  unfold f_X0_pawnReaches_122 at hf
  obtain ⟨-, hf⟩ := m_chkE hf
  cases hf
  exact h_S
theorem ro_X0_pawnReaches_121 {o : Int32 × ZS} {S : ZS}  (hf : f_X0_pawnReaches_121 S = some o) : o.2 = S := by
  have h_S : S = S := rfl
  unfold f_X0_pawnReaches_121 at hf
  exact (ro_X0_pawnReaches_122  hf).trans h_S
theorem ro_X0_pawnReaches_117 {o : Int32 × ZS} {S : ZS}  (hf : f_X0_pawnReaches_117 S = some o) : o.2 = S := by
  have h_S : S = S := rfl
  unfold f_X0_pawnReaches_117 at hf
  exact (ro_X0_pawnReaches_122  hf).trans h_S
theorem ro_X0_pawnReaches_90 {o : Int32 × ZS} {t0 : Int32} {S : ZS}  (hf : f_X0_pawnReaches_90 t0 S = some o) : o.2 = S := by
  have h_S : S = S := rfl
  unfold f_X0_pawnReaches_90 at hf
  obtain ⟨-, hf⟩ := m_chkE hf
  cases hf
  exact h_S
theorem ro_X0_pawnReaches_89 {o : Int32 × ZS} {S : ZS}  (hf : f_X0_pawnReaches_89 S = some o) : o.2 = S := by
  have h_S : S = S := rfl
  unfold f_X0_pawnReaches_89 at hf
  exact (ro_X0_pawnReaches_90  hf).trans h_S
theorem ro_X0_pawnReaches_62 {o : Int32 × ZS} {x0 : Nat} {x1 : Int32} {x2 : Int32} {x3 : Int32} {t0 : Int32} {t1 : Int32} {S : ZS}  (hf : f_X0_pawnReaches_62 x0 x1 x2 x3 t0 t1 S = some o) : o.2 = S := by
  have h_S : S = S := rfl
  unfold f_X0_pawnReaches_62 at hf
  rcases m_ifE hf with ⟨-, hf⟩ | ⟨-, hf⟩
  ·
    obtain ⟨-, hf⟩ := m_chkE hf
    obtain ⟨b1, -, hf⟩ := m_calE hf
    obtain ⟨v2, -, hf⟩ := m_bndE hf
    obtain ⟨-, hf⟩ := m_chkE hf
    obtain ⟨-, hf⟩ := m_chkE hf
    obtain ⟨v3, -, hf⟩ := m_bndE hf
    rcases m_ifE hf with ⟨-, hf⟩ | ⟨-, hf⟩
    ·
      obtain ⟨-, hf⟩ := m_chkE hf
      obtain ⟨b4, -, hf⟩ := m_calE hf
      obtain ⟨-, hf⟩ := m_chkE hf
      obtain ⟨-, hf⟩ := m_chkE hf
      obtain ⟨v5, -, hf⟩ := m_bndE hf
      rcases m_ifE hf with ⟨-, hf⟩ | ⟨-, hf⟩
      ·
        exact (ro_X0_pawnReaches_90  hf).trans h_S
      ·
        exact (ro_X0_pawnReaches_89  hf).trans h_S
    ·
      exact (ro_X0_pawnReaches_89  hf).trans h_S
  ·
    exact (ro_X0_pawnReaches_89  hf).trans h_S
theorem ro_X0_pawnReaches_36 {o : Int32 × ZS} {t0 : Int32} {S : ZS}  (hf : f_X0_pawnReaches_36 t0 S = some o) : o.2 = S := by
  have h_S : S = S := rfl
  unfold f_X0_pawnReaches_36 at hf
  obtain ⟨-, hf⟩ := m_chkE hf
  cases hf
  exact h_S
theorem ro_X0_pawnReaches_14 {o : Int32 × ZS} {x0 : Nat} {x1 : Int32} {x2 : Int32} {t0 : Int32} {S : ZS}  (hf : f_X0_pawnReaches_14 x0 x1 x2 t0 S = some o) : o.2 = S := by
  have h_S : S = S := rfl
  unfold f_X0_pawnReaches_14 at hf
  obtain ⟨v1, -, hf⟩ := m_bndE hf
  rcases m_ifE hf with ⟨-, hf⟩ | ⟨-, hf⟩
  ·
    obtain ⟨-, hf⟩ := m_chkE hf
    obtain ⟨b8, -, hf⟩ := m_calE hf
    obtain ⟨-, hf⟩ := m_chkE hf
    obtain ⟨-, hf⟩ := m_chkE hf
    obtain ⟨v9, -, hf⟩ := m_bndE hf
    rcases m_ifE hf with ⟨-, hf⟩ | ⟨-, hf⟩
    ·
      exact (ro_X0_pawnReaches_36  hf).trans h_S
    ·
      exact (ro_X0_pawnReaches_36  hf).trans h_S
  ·
    obtain ⟨v2, -, hf⟩ := m_bndE hf
    obtain ⟨v3, -, hf⟩ := m_bndE hf
    rcases m_ifE hf with ⟨-, hf⟩ | ⟨-, hf⟩
    ·
      obtain ⟨v7, -, hf⟩ := m_bndE hf
      obtain ⟨-, hf⟩ := m_chkE hf
      rcases m_ifE hf with ⟨-, hf⟩ | ⟨-, hf⟩
      ·
        exact (ro_X0_pawnReaches_62  hf).trans h_S
      ·
        exact (ro_X0_pawnReaches_62  hf).trans h_S
    ·
      obtain ⟨-, hf⟩ := m_chkE hf
      obtain ⟨o4, ho, hf⟩ := m_calE hf
      have h_o4 := (ro_X0_attacks ho).trans h_S
      clear ho
      rcases m_ifE hf with ⟨-, hf⟩ | ⟨-, hf⟩
      ·
        exact (ro_X0_pawnReaches_121  hf).trans h_o4
      ·
        obtain ⟨-, hf⟩ := m_chkE hf
        obtain ⟨b5, -, hf⟩ := m_calE hf
        obtain ⟨-, hf⟩ := m_chkE hf
        obtain ⟨-, hf⟩ := m_chkE hf
        obtain ⟨v6, -, hf⟩ := m_bndE hf
        rcases m_ifE hf with ⟨-, hf⟩ | ⟨-, hf⟩
        ·
          obtain ⟨-, hf⟩ := m_chkE hf
          rcases m_ifE hf with ⟨-, hf⟩ | ⟨-, hf⟩
          ·
            exact (ro_X0_pawnReaches_117  hf).trans h_o4
          ·
            exact (ro_X0_pawnReaches_121  hf).trans h_o4
        ·
          exact (ro_X0_pawnReaches_117  hf).trans h_o4
theorem ro_X0_pawnReaches_0 {o : Int32 × ZS} {x0 : Nat} {x1 : Int32} {x2 : Int32} {S : ZS}  (hf : f_X0_pawnReaches_0 x0 x1 x2 S = some o) : o.2 = S := by
  have h_S : S = S := rfl
  unfold f_X0_pawnReaches_0 at hf
  obtain ⟨-, hf⟩ := m_chkE hf
  rcases m_ifE hf with ⟨-, hf⟩ | ⟨-, hf⟩
  ·
    exact (ro_X0_pawnReaches_14  hf).trans h_S
  ·
    exact (ro_X0_pawnReaches_14  hf).trans h_S
theorem ro_X0_pawnReaches {o : Int32 × ZS} {x0 : Nat} {x1 : Int32} {x2 : Int32} {S : ZS}  (hf : f_X0_pawnReaches x0 x1 x2 S = some o) : o.2 = S := by
  have h_S : S = S := rfl
  unfold f_X0_pawnReaches at hf
  exact (ro_X0_pawnReaches_0  hf).trans h_S
theorem ro_X0_castles_42 {o : Int32 × ZS} {t0 : Int32} {S : ZS}  (hf : f_X0_castles_42 t0 S = some o) : o.2 = S := by
  have h_S : S = S := rfl
  unfold f_X0_castles_42 at hf
  obtain ⟨-, hf⟩ := m_chkE hf
  cases hf
  exact h_S
theorem ro_X0_castles_41 {o : Int32 × ZS} {S : ZS}  (hf : f_X0_castles_41 S = some o) : o.2 = S := by
  have h_S : S = S := rfl
  unfold f_X0_castles_41 at hf
  exact (ro_X0_castles_42  hf).trans h_S
theorem ro_X0_castles_37 {o : Int32 × ZS} {S : ZS}  (hf : f_X0_castles_37 S = some o) : o.2 = S := by
  have h_S : S = S := rfl
  unfold f_X0_castles_37 at hf
  exact (ro_X0_castles_42  hf).trans h_S
theorem ro_X0_castles_0 {o : Int32 × ZS} {x0 : Nat} {x1 : Int32} {x2 : Int32} {S : ZS}  (hf : f_X0_castles_0 x0 x1 x2 S = some o) : o.2 = S := by
  have h_S : S = S := rfl
  unfold f_X0_castles_0 at hf
  obtain ⟨-, hf⟩ := m_chkE hf
  obtain ⟨b1, -, hf⟩ := m_calE hf
  obtain ⟨-, hf⟩ := m_chkE hf
  obtain ⟨-, hf⟩ := m_chkE hf
  obtain ⟨v2, -, hf⟩ := m_bndE hf
  obtain ⟨v3, -, hf⟩ := m_bndE hf
  rcases m_ifE hf with ⟨-, hf⟩ | ⟨-, hf⟩
  ·
    obtain ⟨v4, -, hf⟩ := m_bndE hf
    obtain ⟨v5, -, hf⟩ := m_bndE hf
    rcases m_ifE hf with ⟨-, hf⟩ | ⟨-, hf⟩
    ·
      obtain ⟨v6, -, hf⟩ := m_bndE hf
      rcases m_ifE hf with ⟨-, hf⟩ | ⟨-, hf⟩
      ·
        exact (ro_X0_castles_37  hf).trans h_S
      ·
        obtain ⟨v7, -, hf⟩ := m_bndE hf
        rcases m_ifE hf with ⟨-, hf⟩ | ⟨-, hf⟩
        ·
          exact (ro_X0_castles_37  hf).trans h_S
        ·
          exact (ro_X0_castles_41  hf).trans h_S
    ·
      exact (ro_X0_castles_41  hf).trans h_S
  ·
    exact (ro_X0_castles_41  hf).trans h_S
theorem ro_X0_castles {o : Int32 × ZS} {x0 : Nat} {x1 : Int32} {x2 : Int32} {S : ZS}  (hf : f_X0_castles x0 x1 x2 S = some o) : o.2 = S := by
  have h_S : S = S := rfl
  unfold f_X0_castles at hf
  exact (ro_X0_castles_0  hf).trans h_S
theorem ro_X0_castlingIsOpen_50 {o : Int32 × ZS} {S : ZS}  (hf : f_X0_castlingIsOpen_50 S = some o) : o.2 = S := by
  have h_S : S = S := rfl
  unfold f_X0_castlingIsOpen_50 at hf
  obtain ⟨-, hf⟩ := m_chkE hf
  cases hf
  exact h_S
theorem ro_X0_castlingIsOpen_123 {o : Int32 × ZS} {t0 : Int32} {S : ZS}  (hf : f_X0_castlingIsOpen_123 t0 S = some o) : o.2 = S := by
  have h_S : S = S := rfl
  unfold f_X0_castlingIsOpen_123 at hf
  obtain ⟨-, hf⟩ := m_chkE hf
  cases hf
  exact h_S
theorem ro_X0_castlingIsOpen_122 {o : Int32 × ZS} {S : ZS}  (hf : f_X0_castlingIsOpen_122 S = some o) : o.2 = S := by
  have h_S : S = S := rfl
  unfold f_X0_castlingIsOpen_122 at hf
  exact (ro_X0_castlingIsOpen_123  hf).trans h_S
theorem ro_X0_castlingIsOpen_84 {o : Int32 × ZS} {t0 : Int32} {S : ZS}  (hf : f_X0_castlingIsOpen_84 t0 S = some o) : o.2 = S := by
  have h_S : S = S := rfl
  unfold f_X0_castlingIsOpen_84 at hf
  obtain ⟨-, hf⟩ := m_chkE hf
  cases hf
  exact h_S
theorem ro_X0_castlingIsOpen_83 {o : Int32 × ZS} {S : ZS}  (hf : f_X0_castlingIsOpen_83 S = some o) : o.2 = S := by
  have h_S : S = S := rfl
  unfold f_X0_castlingIsOpen_83 at hf
  exact (ro_X0_castlingIsOpen_84  hf).trans h_S
theorem ro_X0_castlingIsOpen_38 {o : Int32 × ZS} {x0 : Nat} {x1 : Int32} {x2 : Int32} {x3 : Int32} {t0 : Int32} {t1 : Int32} {S : ZS}  (hf : f_X0_castlingIsOpen_38 x0 x1 x2 x3 t0 t1 S = some o) : o.2 = S := by
  have h_S : S = S := rfl
  unfold f_X0_castlingIsOpen_38 at hf
  rcases m_ifE hf with ⟨-, hf⟩ | ⟨-, hf⟩
  ·
    obtain ⟨-, hf⟩ := m_chkE hf
    obtain ⟨v1, -, hf⟩ := m_bndE hf
    rcases m_ifE hf with ⟨-, hf⟩ | ⟨-, hf⟩
    ·
      exact (ro_X0_castlingIsOpen_50  hf).trans h_S
    ·
      rcases m_ifE hf with ⟨-, hf⟩ | ⟨-, hf⟩
      ·
        obtain ⟨-, hf⟩ := m_chkE hf
        obtain ⟨b2, -, hf⟩ := m_calE hf
        obtain ⟨v3, -, hf⟩ := m_bndE hf
        obtain ⟨-, hf⟩ := m_chkE hf
        obtain ⟨-, hf⟩ := m_chkE hf
        obtain ⟨v4, -, hf⟩ := m_bndE hf
        rcases m_ifE hf with ⟨-, hf⟩ | ⟨-, hf⟩
        ·
          obtain ⟨-, hf⟩ := m_chkE hf
          obtain ⟨b5, -, hf⟩ := m_calE hf
          obtain ⟨v6, -, hf⟩ := m_bndE hf
          obtain ⟨-, hf⟩ := m_chkE hf
          obtain ⟨-, hf⟩ := m_chkE hf
          obtain ⟨v7, -, hf⟩ := m_bndE hf
          rcases m_ifE hf with ⟨-, hf⟩ | ⟨-, hf⟩
          ·
            obtain ⟨-, hf⟩ := m_chkE hf
            obtain ⟨b8, -, hf⟩ := m_calE hf
            obtain ⟨v9, -, hf⟩ := m_bndE hf
            obtain ⟨-, hf⟩ := m_chkE hf
            obtain ⟨-, hf⟩ := m_chkE hf
            obtain ⟨v10, -, hf⟩ := m_bndE hf
            rcases m_ifE hf with ⟨-, hf⟩ | ⟨-, hf⟩
            ·
              exact (ro_X0_castlingIsOpen_123  hf).trans h_S
            ·
              exact (ro_X0_castlingIsOpen_122  hf).trans h_S
          ·
            exact (ro_X0_castlingIsOpen_122  hf).trans h_S
        ·
          exact (ro_X0_castlingIsOpen_122  hf).trans h_S
      ·
        obtain ⟨-, hf⟩ := m_chkE hf
        obtain ⟨b11, -, hf⟩ := m_calE hf
        obtain ⟨v12, -, hf⟩ := m_bndE hf
        obtain ⟨-, hf⟩ := m_chkE hf
        obtain ⟨-, hf⟩ := m_chkE hf
        obtain ⟨v13, -, hf⟩ := m_bndE hf
        rcases m_ifE hf with ⟨-, hf⟩ | ⟨-, hf⟩
        ·
          obtain ⟨-, hf⟩ := m_chkE hf
          obtain ⟨b14, -, hf⟩ := m_calE hf
          obtain ⟨v15, -, hf⟩ := m_bndE hf
          obtain ⟨-, hf⟩ := m_chkE hf
          obtain ⟨-, hf⟩ := m_chkE hf
          obtain ⟨v16, -, hf⟩ := m_bndE hf
          rcases m_ifE hf with ⟨-, hf⟩ | ⟨-, hf⟩
          ·
            exact (ro_X0_castlingIsOpen_84  hf).trans h_S
          ·
            exact (ro_X0_castlingIsOpen_83  hf).trans h_S
        ·
          exact (ro_X0_castlingIsOpen_83  hf).trans h_S
  ·
    exact (ro_X0_castlingIsOpen_50  hf).trans h_S
theorem ro_X0_castlingIsOpen_22 {o : Int32 × ZS} {x0 : Nat} {x1 : Int32} {x2 : Int32} {t0 : Int32} {t1 : Int32} {S : ZS}  (hf : f_X0_castlingIsOpen_22 x0 x1 x2 t0 t1 S = some o) : o.2 = S := by
  have h_S : S = S := rfl
  unfold f_X0_castlingIsOpen_22 at hf
  obtain ⟨v1, -, hf⟩ := m_bndE hf
  obtain ⟨-, hf⟩ := m_chkE hf
  rcases m_ifE hf with ⟨-, hf⟩ | ⟨-, hf⟩
  ·
    exact (ro_X0_castlingIsOpen_38  hf).trans h_S
  ·
    exact (ro_X0_castlingIsOpen_38  hf).trans h_S
theorem ro_X0_castlingIsOpen_10 {o : Int32 × ZS} {x0 : Nat} {x1 : Int32} {x2 : Int32} {t0 : Int32} {S : ZS}  (hf : f_X0_castlingIsOpen_10 x0 x1 x2 t0 S = some o) : o.2 = S := by
  have h_S : S = S := rfl
  unfold f_X0_castlingIsOpen_10 at hf
  obtain ⟨-, hf⟩ := m_chkE hf
  rcases m_ifE hf with ⟨-, hf⟩ | ⟨-, hf⟩
  ·
    exact (ro_X0_castlingIsOpen_22  hf).trans h_S
  ·
    exact (ro_X0_castlingIsOpen_22  hf).trans h_S
theorem ro_X0_castlingIsOpen_0 {o : Int32 × ZS} {x0 : Nat} {x1 : Int32} {x2 : Int32} {S : ZS}  (hf : f_X0_castlingIsOpen_0 x0 x1 x2 S = some o) : o.2 = S := by
  have h_S : S = S := rfl
  unfold f_X0_castlingIsOpen_0 at hf
  rcases m_ifE hf with ⟨-, hf⟩ | ⟨-, hf⟩
  ·
    exact (ro_X0_castlingIsOpen_10  hf).trans h_S
  ·
    exact (ro_X0_castlingIsOpen_10  hf).trans h_S
theorem ro_X0_castlingIsOpen {o : Int32 × ZS} {x0 : Nat} {x1 : Int32} {x2 : Int32} {S : ZS}  (hf : f_X0_castlingIsOpen x0 x1 x2 S = some o) : o.2 = S := by
  have h_S : S = S := rfl
  unfold f_X0_castlingIsOpen at hf
  exact (ro_X0_castlingIsOpen_0  hf).trans h_S
theorem ro_X0_reaches_45 {o : Int32 × ZS} {S : ZS}  (hf : f_X0_reaches_45 S = some o) : o.2 = S := by
  have h_S : S = S := rfl
  unfold f_X0_reaches_45 at hf
  obtain ⟨-, hf⟩ := m_chkE hf
  cases hf
  exact h_S
theorem ro_X0_reaches_95 {o : Int32 × ZS} {t0 : Int32} {S : ZS}  (hf : f_X0_reaches_95 t0 S = some o) : o.2 = S := by
  have h_S : S = S := rfl
  unfold f_X0_reaches_95 at hf
  obtain ⟨-, hf⟩ := m_chkE hf
  cases hf
  exact h_S
theorem ro_X0_reaches_90 {o : Int32 × ZS} {S : ZS}  (hf : f_X0_reaches_90 S = some o) : o.2 = S := by
  have h_S : S = S := rfl
  unfold f_X0_reaches_90 at hf
  exact (ro_X0_reaches_95  hf).trans h_S
theorem ro_X0_reaches_94 {o : Int32 × ZS} {S : ZS}  (hf : f_X0_reaches_94 S = some o) : o.2 = S := by
  have h_S : S = S := rfl
  unfold f_X0_reaches_94 at hf
  exact (ro_X0_reaches_95  hf).trans h_S
theorem ro_X0_reaches_47 {o : Int32 × ZS} {x0 : Nat} {x1 : Int32} {x2 : Int32} {S : ZS}  (hf : f_X0_reaches_47 x0 x1 x2 S = some o) : o.2 = S := by
  have h_S : S = S := rfl
  unfold f_X0_reaches_47 at hf
  obtain ⟨-, hf⟩ := m_chkE hf
  obtain ⟨o1, ho, hf⟩ := m_calE hf
  have h_o1 := (ro_X0_kindAt ho).trans h_S
  clear ho
  rcases m_ifE hf with ⟨-, hf⟩ | ⟨-, hf⟩
  ·
    obtain ⟨-, hf⟩ := m_chkE hf
    obtain ⟨o5, ho, hf⟩ := m_calE hf
    have h_o5 := (ro_X0_pawnReaches ho).trans h_o1
    clear ho
    obtain ⟨-, hf⟩ := m_chkE hf
    cases hf
    exact h_o5
  ·
    obtain ⟨-, hf⟩ := m_chkE hf
    obtain ⟨o2, ho, hf⟩ := m_calE hf
    have h_o2 := (ro_X0_attacks ho).trans h_o1
    clear ho
    rcases m_ifE hf with ⟨-, hf⟩ | ⟨-, hf⟩
    ·
      obtain ⟨-, hf⟩ := m_chkE hf
      obtain ⟨o3, ho, hf⟩ := m_calE hf
      have h_o3 := (ro_X0_castles ho).trans h_o2
      clear ho
      rcases m_ifE hf with ⟨-, hf⟩ | ⟨-, hf⟩
      ·
        exact (ro_X0_reaches_94  hf).trans h_o3
      ·
        obtain ⟨-, hf⟩ := m_chkE hf
        obtain ⟨o4, ho, hf⟩ := m_calE hf
        have h_o4 := (ro_X0_castlingIsOpen ho).trans h_o3
        clear ho
        rcases m_ifE hf with ⟨-, hf⟩ | ⟨-, hf⟩
        ·
          exact (ro_X0_reaches_94  hf).trans h_o4
        ·
          exact (ro_X0_reaches_90  hf).trans h_o4
    ·
      exact (ro_X0_reaches_90  hf).trans h_o2
theorem ro_X0_reaches_0 {o : Int32 × ZS} {x0 : Nat} {x1 : Int32} {x2 : Int32} {S : ZS}  (hf : f_X0_reaches_0 x0 x1 x2 S = some o) : o.2 = S := by
  have h_S : S = S := rfl
  unfold f_X0_reaches_0 at hf
  obtain ⟨-, hf⟩ := m_chkE hf
  obtain ⟨b1, -, hf⟩ := m_calE hf
  obtain ⟨-, hf⟩ := m_chkE hf
  obtain ⟨-, hf⟩ := m_chkE hf
  obtain ⟨v2, -, hf⟩ := m_bndE hf
  rcases m_ifE hf with ⟨-, hf⟩ | ⟨-, hf⟩
  ·
    exact (ro_X0_reaches_45  hf).trans h_S
  ·
    obtain ⟨v3, -, hf⟩ := m_bndE hf
    obtain ⟨-, hf⟩ := m_chkE hf
    rcases m_ifE hf with ⟨-, hf⟩ | ⟨-, hf⟩
    ·
      obtain ⟨-, hf⟩ := m_chkE hf
      obtain ⟨b4, -, hf⟩ := m_calE hf
      obtain ⟨-, hf⟩ := m_chkE hf
      obtain ⟨-, hf⟩ := m_chkE hf
      obtain ⟨v5, -, hf⟩ := m_bndE hf
      rcases m_ifE hf with ⟨-, hf⟩ | ⟨-, hf⟩
      ·
        exact (ro_X0_reaches_47  hf).trans h_S
      ·
        obtain ⟨-, hf⟩ := m_chkE hf
        obtain ⟨b6, -, hf⟩ := m_calE hf
        obtain ⟨-, hf⟩ := m_chkE hf
        obtain ⟨-, hf⟩ := m_chkE hf
        obtain ⟨v7, -, hf⟩ := m_bndE hf
        obtain ⟨v8, -, hf⟩ := m_bndE hf
        obtain ⟨-, hf⟩ := m_chkE hf
        rcases m_ifE hf with ⟨-, hf⟩ | ⟨-, hf⟩
        ·
          exact (ro_X0_reaches_45  hf).trans h_S
        ·
          exact (ro_X0_reaches_47  hf).trans h_S
    ·
      exact (ro_X0_reaches_45  hf).trans h_S
theorem ro_X0_reaches {o : Int32 × ZS} {x0 : Nat} {x1 : Int32} {x2 : Int32} {S : ZS}  (hf : f_X0_reaches x0 x1 x2 S = some o) : o.2 = S := by
  have h_S : S = S := rfl
  unfold f_X0_reaches at hf
  exact (ro_X0_reaches_0  hf).trans h_S
theorem ro_X0_takes_34 {o : Int32 × ZS} {t0 : Int32} {S : ZS}  (hf : f_X0_takes_34 t0 S = some o) : o.2 = S := by
  have h_S : S = S := rfl
  unfold f_X0_takes_34 at hf
  obtain ⟨-, hf⟩ := m_chkE hf
  cases hf
  exact h_S
theorem ro_X0_takes_29 {o : Int32 × ZS} {S : ZS}  (hf : f_X0_takes_29 S = some o) : o.2 = S := by
  have h_S : S = S := rfl
  unfold f_X0_takes_29 at hf
  exact (ro_X0_takes_34  hf).trans h_S
theorem ro_X0_takes_33 {o : Int32 × ZS} {S : ZS}  (hf : f_X0_takes_33 S = some o) : o.2 = S := by
  have h_S : S = S := rfl
  unfold f_X0_takes_33 at hf
  exact (ro_X0_takes_34  hf).trans h_S
theorem ro_X0_takes_0 {o : Int32 × ZS} {x0 : Nat} {x1 : Int32} {x2 : Int32} {S : ZS}  (hf : f_X0_takes_0 x0 x1 x2 S = some o) : o.2 = S := by
  have h_S : S = S := rfl
  unfold f_X0_takes_0 at hf
  obtain ⟨-, hf⟩ := m_chkE hf
  obtain ⟨b1, -, hf⟩ := m_calE hf
  obtain ⟨-, hf⟩ := m_chkE hf
  obtain ⟨-, hf⟩ := m_chkE hf
  obtain ⟨v2, -, hf⟩ := m_bndE hf
  rcases m_ifE hf with ⟨-, hf⟩ | ⟨-, hf⟩
  ·
    obtain ⟨-, hf⟩ := m_chkE hf
    obtain ⟨o3, ho, hf⟩ := m_calE hf
    have h_o3 := (ro_X0_kindAt ho).trans h_S
    clear ho
    rcases m_ifE hf with ⟨-, hf⟩ | ⟨-, hf⟩
    ·
      obtain ⟨v4, -, hf⟩ := m_bndE hf
      obtain ⟨v5, -, hf⟩ := m_bndE hf
      rcases m_ifE hf with ⟨-, hf⟩ | ⟨-, hf⟩
      ·
        exact (ro_X0_takes_33  hf).trans h_o3
      ·
        exact (ro_X0_takes_29  hf).trans h_o3
    ·
      exact (ro_X0_takes_33  hf).trans h_o3
  ·
    exact (ro_X0_takes_29  hf).trans h_S
theorem ro_X0_takes {o : Int32 × ZS} {x0 : Nat} {x1 : Int32} {x2 : Int32} {S : ZS}  (hf : f_X0_takes x0 x1 x2 S = some o) : o.2 = S := by
  have h_S : S = S := rfl
  unfold f_X0_takes at hf
  exact (ro_X0_takes_0  hf).trans h_S
theorem ro_X0_becomesAnother_26 {o : Int32 × ZS} {t0 : Int32} {S : ZS}  (hf : f_X0_becomesAnother_26 t0 S = some o) : o.2 = S := by
  have h_S : S = S := rfl
  unfold f_X0_becomesAnother_26 at hf
  obtain ⟨-, hf⟩ := m_chkE hf
  cases hf
  exact h_S
theorem ro_X0_becomesAnother_25 {o : Int32 × ZS} {S : ZS}  (hf : f_X0_becomesAnother_25 S = some o) : o.2 = S := by
  have h_S : S = S := rfl
  unfold f_X0_becomesAnother_25 at hf
  exact (ro_X0_becomesAnother_26  hf).trans h_S
theorem ro_X0_becomesAnother_21 {o : Int32 × ZS} {S : ZS}  (hf : f_X0_becomesAnother_21 S = some o) : o.2 = S := by
  have h_S : S = S := rfl
  unfold f_X0_becomesAnother_21 at hf
  exact (ro_X0_becomesAnother_26  hf).trans h_S
theorem ro_X0_becomesAnother_0 {o : Int32 × ZS} {x0 : Nat} {x1 : Int32} {x2 : Int32} {S : ZS}  (hf : f_X0_becomesAnother_0 x0 x1 x2 S = some o) : o.2 = S := by
  have h_S : S = S := rfl
  unfold f_X0_becomesAnother_0 at hf
  obtain ⟨-, hf⟩ := m_chkE hf
  obtain ⟨o1, ho, hf⟩ := m_calE hf
  have h_o1 := (ro_X0_kindAt ho).trans h_S
  clear ho
  rcases m_ifE hf with ⟨-, hf⟩ | ⟨-, hf⟩
  ·
    rcases m_ifE hf with ⟨-, hf⟩ | ⟨-, hf⟩
    ·
      exact (ro_X0_becomesAnother_21  hf).trans h_o1
    ·
      rcases m_ifE hf with ⟨-, hf⟩ | ⟨-, hf⟩
      ·
        exact (ro_X0_becomesAnother_25  hf).trans h_o1
      ·
        exact (ro_X0_becomesAnother_21  hf).trans h_o1
  ·
    exact (ro_X0_becomesAnother_25  hf).trans h_o1
theorem ro_X0_becomesAnother {o : Int32 × ZS} {x0 : Nat} {x1 : Int32} {x2 : Int32} {S : ZS}  (hf : f_X0_becomesAnother x0 x1 x2 S = some o) : o.2 = S := by
  have h_S : S = S := rfl
  unfold f_X0_becomesAnother at hf
  exact (ro_X0_becomesAnother_0  hf).trans h_S
theorem ro_X0_pawnAttacks_34 {o : Int32 × ZS} {S : ZS}  (hf : f_X0_pawnAttacks_34 S = some o) : o.2 = S := by
  have h_S : S = S := rfl
  unfold f_X0_pawnAttacks_34 at hf
  obtain ⟨-, hf⟩ := m_chkE hf
  cases hf
  exact h_S
theorem ro_X0_pawnAttacks_85 {o : Int32 × ZS} {t0 : Int32} {S : ZS}  (hf : f_X0_pawnAttacks_85 t0 S = some o) : o.2 = S := by
  have h_S : S = S := rfl
  unfold f_X0_pawnAttacks_85 at hf
  obtain ⟨-, hf⟩ := m_chkE hf
  cases hf
  exact h_S
theorem ro_X0_pawnAttacks_84 {o : Int32 × ZS} {S : ZS}  (hf : f_X0_pawnAttacks_84 S = some o) : o.2 = S := by
  have h_S : S = S := rfl
  unfold f_X0_pawnAttacks_84 at hf
  exact (ro_X0_pawnAttacks_85  hf).trans h_S
theorem ro_X0_pawnAttacks_80 {o : Int32 × ZS} {S : ZS}  (hf : f_X0_pawnAttacks_80 S = some o) : o.2 = S := by
  have h_S : S = S := rfl
  unfold f_X0_pawnAttacks_80 at hf
  exact (ro_X0_pawnAttacks_85  hf).trans h_S
theorem ro_X0_pawnAttacks_57 {o : Int32 × ZS} {x0 : Nat} {x3 : Int32} {x4 : Int32} {S : ZS}  (hf : f_X0_pawnAttacks_57 x0 x3 x4 S = some o) : o.2 = S := by
  have h_S : S = S := rfl
  unfold f_X0_pawnAttacks_57 at hf
  obtain ⟨v1, -, hf⟩ := m_bndE hf
  rcases m_ifE hf with ⟨-, hf⟩ | ⟨-, hf⟩
  ·
    exact (ro_X0_pawnAttacks_84  hf).trans h_S
  ·
    obtain ⟨-, hf⟩ := m_chkE hf
    obtain ⟨b2, -, hf⟩ := m_calE hf
    obtain ⟨v3, -, hf⟩ := m_bndE hf
    obtain ⟨-, hf⟩ := m_chkE hf
    obtain ⟨-, hf⟩ := m_chkE hf
    obtain ⟨v4, -, hf⟩ := m_bndE hf
    rcases m_ifE hf with ⟨-, hf⟩ | ⟨-, hf⟩
    ·
      exact (ro_X0_pawnAttacks_80  hf).trans h_S
    ·
      exact (ro_X0_pawnAttacks_84  hf).trans h_S
theorem ro_X0_pawnAttacks_19 {o : Int32 × ZS} {x0 : Nat} {x3 : Int32} {t0 : Int32} {t1 : Int32} {S : ZS}  (hf : f_X0_pawnAttacks_19 x0 x3 t0 t1 S = some o) : o.2 = S := by
  have h_S : S = S := rfl
  unfold f_X0_pawnAttacks_19 at hf
  obtain ⟨v1, -, hf⟩ := m_bndE hf
  rcases m_ifE hf with ⟨-, hf⟩ | ⟨-, hf⟩
  ·
    exact (ro_X0_pawnAttacks_34  hf).trans h_S
  ·
    rcases m_ifE hf with ⟨-, hf⟩ | ⟨-, hf⟩
    ·
      obtain ⟨v2, -, hf⟩ := m_bndE hf
      rcases m_ifE hf with ⟨-, hf⟩ | ⟨-, hf⟩
      ·
        exact (ro_X0_pawnAttacks_57  hf).trans h_S
      ·
        obtain ⟨-, hf⟩ := m_chkE hf
        obtain ⟨b3, -, hf⟩ := m_calE hf
        obtain ⟨v4, -, hf⟩ := m_bndE hf
        obtain ⟨-, hf⟩ := m_chkE hf
        obtain ⟨-, hf⟩ := m_chkE hf
        obtain ⟨v5, -, hf⟩ := m_bndE hf
        rcases m_ifE hf with ⟨-, hf⟩ | ⟨-, hf⟩
        ·
          exact (ro_X0_pawnAttacks_80  hf).trans h_S
        ·
          exact (ro_X0_pawnAttacks_57  hf).trans h_S
    ·
      exact (ro_X0_pawnAttacks_34  hf).trans h_S
theorem ro_X0_pawnAttacks_0 {o : Int32 × ZS} {x0 : Nat} {x1 : Int32} {x2 : Int32} {S : ZS}  (hf : f_X0_pawnAttacks_0 x0 x1 x2 S = some o) : o.2 = S := by
  have h_S : S = S := rfl
  unfold f_X0_pawnAttacks_0 at hf
  obtain ⟨v1, -, hf⟩ := m_bndE hf
  obtain ⟨v2, -, hf⟩ := m_bndE hf
  rcases m_ifE hf with ⟨-, hf⟩ | ⟨-, hf⟩
  ·
    exact (ro_X0_pawnAttacks_19  hf).trans h_S
  ·
    exact (ro_X0_pawnAttacks_19  hf).trans h_S
theorem ro_X0_pawnAttacks {o : Int32 × ZS} {x0 : Nat} {x1 : Int32} {x2 : Int32} {S : ZS}  (hf : f_X0_pawnAttacks x0 x1 x2 S = some o) : o.2 = S := by
  have h_S : S = S := rfl
  unfold f_X0_pawnAttacks at hf
  exact (ro_X0_pawnAttacks_0  hf).trans h_S
theorem ro_X0_rightsOf_0 {o : Int32 × ZS} {x0 : Int32} {S : ZS}  (hf : f_X0_rightsOf_0 x0 S = some o) : o.2 = S := by
  have h_S : S = S := rfl
  unfold f_X0_rightsOf_0 at hf
  rcases m_ifE hf with ⟨-, hf⟩ | ⟨-, hf⟩
  ·
    cases hf
    exact h_S
  ·
    rcases m_ifE hf with ⟨-, hf⟩ | ⟨-, hf⟩
    ·
      cases hf
      exact h_S
    ·
      rcases m_ifE hf with ⟨-, hf⟩ | ⟨-, hf⟩
      ·
        cases hf
        exact h_S
      ·
        rcases m_ifE hf with ⟨-, hf⟩ | ⟨-, hf⟩
        ·
          cases hf
          exact h_S
        ·
          rcases m_ifE hf with ⟨-, hf⟩ | ⟨-, hf⟩
          ·
            cases hf
            exact h_S
          ·
            rcases m_ifE hf with ⟨-, hf⟩ | ⟨-, hf⟩
            ·
              cases hf
              exact h_S
            ·
              cases hf
              exact h_S
theorem ro_X0_rightsOf {o : Int32 × ZS} {x0 : Int32} {S : ZS}  (hf : f_X0_rightsOf x0 S = some o) : o.2 = S := by
  have h_S : S = S := rfl
  unfold f_X0_rightsOf at hf
  exact (ro_X0_rightsOf_0  hf).trans h_S
theorem ro_X1_has_17 {o : Int32 × ZS} {t0 : Int32} {S : ZS}  (hf : f_X1_has_17 t0 S = some o) : o.2 = S := by
  have h_S : S = S := rfl
  unfold f_X1_has_17 at hf
  obtain ⟨-, hf⟩ := m_chkE hf
  cases hf
  exact h_S
theorem ro_X1_has_16 {o : Int32 × ZS} {S : ZS}  (hf : f_X1_has_16 S = some o) : o.2 = S := by
  have h_S : S = S := rfl
  unfold f_X1_has_16 at hf
  exact (ro_X1_has_17  hf).trans h_S
theorem ro_X1_has_0 {o : Int32 × ZS} {x0 : Nat} {x1 : Int32} {S : ZS}  (hf : f_X1_has_0 x0 x1 S = some o) : o.2 = S := by
  have h_S : S = S := rfl
  unfold f_X1_has_0 at hf
  rcases m_ifE hf with ⟨-, hf⟩ | ⟨-, hf⟩
  ·
    exact (ro_X1_has_16  hf).trans h_S
  ·
    obtain ⟨-, hf⟩ := m_chkE hf
    rcases m_ifE hf with ⟨-, hf⟩ | ⟨-, hf⟩
    ·
      exact (ro_X1_has_16  hf).trans h_S
    ·
      exact (ro_X1_has_17  hf).trans h_S
theorem ro_X1_has {o : Int32 × ZS} {x0 : Nat} {x1 : Int32} {S : ZS}  (hf : f_X1_has x0 x1 S = some o) : o.2 = S := by
  have h_S : S = S := rfl
  unfold f_X1_has at hf
  exact (ro_X1_has_0  hf).trans h_S
theorem ro_X1_at_35 {o : Nat × ZS} {t0 : Option Nat} {S : ZS}  (hf : f_X1_at_35 t0 S = some o) : o.2 = S := by
  have h_S : S = S := rfl
  unfold f_X1_at_35 at hf
  obtain ⟨b1, -, hf⟩ := m_calE hf
  cases hf
  exact h_S
theorem ro_X1_at_22 {o : Nat × ZS} {x0 : Nat} {t0 : Option Nat} {S : ZS}  (hf : f_X1_at_22 x0 t0 S = some o) : o.2 = S := by
  have h_S : S = S := rfl
  unfold f_X1_at_22 at hf
  rcases m_optE hf with ⟨-, hf⟩ | ⟨b1, -, hf⟩
  ·
    obtain ⟨-, hf⟩ := m_chkE hf
    obtain ⟨b2, -, hf⟩ := m_calE hf
    exact (ro_X1_at_35  hf).trans h_S
  ·
    exact (ro_X1_at_35  hf).trans h_S
theorem ro_X1_at_21 {o : Nat × ZS} {x0 : Nat} {S : ZS}  (hf : f_X1_at_21 x0 S = some o) : o.2 = S := by
  have h_S : S = S := rfl
  unfold f_X1_at_21 at hf
  exact (ro_X1_at_22  hf).trans h_S
theorem ro_X1_at_0 {o : Nat × ZS} {x0 : Nat} {x1 : Int32} {S : ZS}  (hf : f_X1_at_0 x0 x1 S = some o) : o.2 = S := by
  have h_S : S = S := rfl
  unfold f_X1_at_0 at hf
  rcases m_ifE hf with ⟨-, hf⟩ | ⟨-, hf⟩
  ·
    exact (ro_X1_at_21  hf).trans h_S
  ·
    obtain ⟨-, hf⟩ := m_chkE hf
    rcases m_ifE hf with ⟨-, hf⟩ | ⟨-, hf⟩
    ·
      exact (ro_X1_at_21  hf).trans h_S
    ·
      obtain ⟨-, hf⟩ := m_chkE hf
      obtain ⟨b1, -, hf⟩ := m_calE hf
      obtain ⟨-, hf⟩ := m_chkE hf
      obtain ⟨-, hf⟩ := m_chkE hf
      obtain ⟨v2, -, hf⟩ := m_bndE hf
      exact (ro_X1_at_22  hf).trans h_S
theorem ro_X1_at {o : Nat × ZS} {x0 : Nat} {x1 : Int32} {S : ZS}  (hf : f_X1_at x0 x1 S = some o) : o.2 = S := by
  have h_S : S = S := rfl
  unfold f_X1_at at hf
  exact (ro_X1_at_0  hf).trans h_S
theorem ro_X1_childWith_52 {o : Int32 × ZS} {x3 : Int32} {S : ZS}  (hf : f_X1_childWith_52 x3 S = some o) : o.2 = S := by
  have h_S : S = S := rfl
  unfold f_X1_childWith_52 at hf
  cases hf
  exact h_S
theorem ro_X1_childWith_12s {o : Int32 × ZS} {self12 : Nat → Int32 → Int32 → Int32 → ZS → Option (Int32 × ZS)} {x0 : Nat} {x2 : Int32} {x3 : Int32} {x4 : Int32} {S : ZS} (hself12 : ∀ (z0 : Nat) (z1 : Int32) (z2 : Int32) (z3 : Int32) (S : ZS) (o : Int32 × ZS), self12 z0 z1 z2 z3 S = some o → o.2 = S) (hf : f_X1_childWith_12s self12 x0 x2 x3 x4 S = some o) : o.2 = S := by
  have h_S : S = S := rfl
  unfold f_X1_childWith_12s at hf
  rcases m_ifE hf with ⟨-, hf⟩ | ⟨-, hf⟩
  ·
    exact (ro_X1_childWith_52  hf).trans h_S
  ·
    rcases m_ifE hf with ⟨-, hf⟩ | ⟨-, hf⟩
    ·
      exact (ro_X1_childWith_52  hf).trans h_S
    ·
      obtain ⟨-, hf⟩ := m_chkE hf
      obtain ⟨o1, ho, hf⟩ := m_calE hf
      have h_o1 := (ro_X1_at ho).trans h_S
      clear ho
      obtain ⟨-, hf⟩ := m_chkE hf
      rcases m_ifE hf with ⟨-, hf⟩ | ⟨-, hf⟩
      ·
        exact (ro_X1_childWith_52  hf).trans h_o1
      ·
        obtain ⟨-, hf⟩ := m_chkE hf
        obtain ⟨o2, ho, hf⟩ := m_calE hf
        have h_o2 := (ro_X1_at ho).trans h_o1
        clear ho
        obtain ⟨-, hf⟩ := m_chkE hf
        obtain ⟨v3, -, hf⟩ := m_bndE hf
        exact (hself12 _ _ _ _ _ _ hf).trans h_o2
theorem ro_X1_childWith_12   (n : Nat) : ∀ (y0 : Nat) (y1 : Int32) (y2 : Int32) (y3 : Int32) (S : ZS) (o : Int32 × ZS), f_X1_childWith_12  n y0 y1 y2 y3 S = some o → o.2 = S := by
  induction n with
  | zero => intro y0 y1 y2 y3 S o hf; cases hf
  | succ n ih => intro y0 y1 y2 y3 S o hf; exact ro_X1_childWith_12s  ih hf
theorem ro_X1_childWith_0 {o : Int32 × ZS} {x0 : Nat} {x1 : Int32} {x2 : Int32} {S : ZS}  (hf : f_X1_childWith_0 x0 x1 x2 S = some o) : o.2 = S := by
  have h_S : S = S := rfl
  unfold f_X1_childWith_0 at hf
  obtain ⟨-, hf⟩ := m_chkE hf
  obtain ⟨o1, ho, hf⟩ := m_calE hf
  have h_o1 := (ro_X1_at ho).trans h_S
  clear ho
  obtain ⟨-, hf⟩ := m_chkE hf
  exact (ro_X1_childWith_12  _ _ _ _ _ _ _ hf).trans h_o1
theorem ro_X1_childWith {o : Int32 × ZS} {x0 : Nat} {x1 : Int32} {x2 : Int32} {S : ZS}  (hf : f_X1_childWith x0 x1 x2 S = some o) : o.2 = S := by
  have h_S : S = S := rfl
  unfold f_X1_childWith at hf
  exact (ro_X1_childWith_0  hf).trans h_S
theorem ro_X1_goesOn_24 {o : Int32 × ZS} {t0 : Int32} {S : ZS}  (hf : f_X1_goesOn_24 t0 S = some o) : o.2 = S := by
  have h_S : S = S := rfl
  unfold f_X1_goesOn_24 at hf
  obtain ⟨-, hf⟩ := m_chkE hf
  cases hf
  exact h_S
theorem ro_X1_goesOn_0 {o : Int32 × ZS} {x0 : Nat} {x1 : Int32} {S : ZS}  (hf : f_X1_goesOn_0 x0 x1 S = some o) : o.2 = S := by
  have h_S : S = S := rfl
  unfold f_X1_goesOn_0 at hf
  obtain ⟨-, hf⟩ := m_chkE hf
  obtain ⟨o1, ho, hf⟩ := m_calE hf
  have h_o1 := (ro_X1_at ho).trans h_S
  clear ho
  obtain ⟨-, hf⟩ := m_chkE hf
  obtain ⟨-, hf⟩ := m_chkE hf
  obtain ⟨o2, ho, hf⟩ := m_calE hf
  have h_o2 := (ro_X1_at ho).trans h_o1
  clear ho
  obtain ⟨-, hf⟩ := m_chkE hf
  rcases m_ifE hf with ⟨-, hf⟩ | ⟨-, hf⟩
  ·
    exact (ro_X1_goesOn_24  hf).trans h_o2
  ·
    exact (ro_X1_goesOn_24  hf).trans h_o2
theorem ro_X1_goesOn {o : Int32 × ZS} {x0 : Nat} {x1 : Int32} {S : ZS}  (hf : f_X1_goesOn x0 x1 S = some o) : o.2 = S := by
  have h_S : S = S := rfl
  unfold f_X1_goesOn at hf
  exact (ro_X1_goesOn_0  hf).trans h_S
theorem ro_X1_deepOfNext_66 {o : Int32 × ZS} {x2 : Int32} {S : ZS}  (hf : f_X1_deepOfNext_66 x2 S = some o) : o.2 = S := by
  have h_S : S = S := rfl
  unfold f_X1_deepOfNext_66 at hf
  cases hf
  exact h_S
theorem ro_X1_deepOfNext_49 {o : Int32 × ZS} {self23 : Nat → Int32 → Int32 → Int32 → ZS → Option (Int32 × ZS)} {x0 : Nat} {x3 : Int32} {x4 : Int32} {t0 : Int32} {t1 : Int32} {S : ZS} (hself23 : ∀ (z0 : Nat) (z1 : Int32) (z2 : Int32) (z3 : Int32) (S : ZS) (o : Int32 × ZS), self23 z0 z1 z2 z3 S = some o → o.2 = S) (hf : f_X1_deepOfNext_49 self23 x0 x3 x4 t0 t1 S = some o) : o.2 = S := by
  have h_S : S = S := rfl
  unfold f_X1_deepOfNext_49 at hf
  obtain ⟨v1, -, hf⟩ := m_bndE hf
  obtain ⟨-, hf⟩ := m_chkE hf
  obtain ⟨o2, ho, hf⟩ := m_calE hf
  have h_o2 := (ro_X1_at ho).trans h_S
  clear ho
  obtain ⟨-, hf⟩ := m_chkE hf
  obtain ⟨v3, -, hf⟩ := m_bndE hf
  exact (hself23 _ _ _ _ _ _ hf).trans h_o2
theorem ro_X1_deepOfNext_23s {o : Int32 × ZS} {self23 : Nat → Int32 → Int32 → Int32 → ZS → Option (Int32 × ZS)} {x0 : Nat} {x2 : Int32} {x3 : Int32} {x4 : Int32} {S : ZS} (hself23 : ∀ (z0 : Nat) (z1 : Int32) (z2 : Int32) (z3 : Int32) (S : ZS) (o : Int32 × ZS), self23 z0 z1 z2 z3 S = some o → o.2 = S) (hf : f_X1_deepOfNext_23s self23 x0 x2 x3 x4 S = some o) : o.2 = S := by
  have h_S : S = S := rfl
  unfold f_X1_deepOfNext_23s at hf
  rcases m_ifE hf with ⟨-, hf⟩ | ⟨-, hf⟩
  ·
    exact (ro_X1_deepOfNext_66  hf).trans h_S
  ·
    rcases m_ifE hf with ⟨-, hf⟩ | ⟨-, hf⟩
    ·
      exact (ro_X1_deepOfNext_66  hf).trans h_S
    ·
      obtain ⟨-, hf⟩ := m_chkE hf
      obtain ⟨o1, ho, hf⟩ := m_calE hf
      have h_o1 := (ro_X1_goesOn ho).trans h_S
      clear ho
      rcases m_ifE hf with ⟨-, hf⟩ | ⟨-, hf⟩
      ·
        exact (ro_X1_deepOfNext_49 hself23 hf).trans h_o1
      ·
        exact (ro_X1_deepOfNext_49 hself23 hf).trans h_o1
theorem ro_X1_deepOfNext_23   (n : Nat) : ∀ (y0 : Nat) (y1 : Int32) (y2 : Int32) (y3 : Int32) (S : ZS) (o : Int32 × ZS), f_X1_deepOfNext_23  n y0 y1 y2 y3 S = some o → o.2 = S := by
  induction n with
  | zero => intro y0 y1 y2 y3 S o hf; cases hf
  | succ n ih => intro y0 y1 y2 y3 S o hf; exact ro_X1_deepOfNext_23s  ih hf
theorem ro_X1_deepOfNext_17 {o : Int32 × ZS} {x0 : Nat} {x1 : Int32} {t0 : Int32} {S : ZS}  (hf : f_X1_deepOfNext_17 x0 x1 t0 S = some o) : o.2 = S := by
  have h_S : S = S := rfl
  unfold f_X1_deepOfNext_17 at hf
  exact (ro_X1_deepOfNext_23  _ _ _ _ _ _ _ hf).trans h_S
theorem ro_X1_deepOfNext_0 {o : Int32 × ZS} {x0 : Nat} {x1 : Int32} {S : ZS}  (hf : f_X1_deepOfNext_0 x0 x1 S = some o) : o.2 = S := by
  have h_S : S = S := rfl
  unfold f_X1_deepOfNext_0 at hf
  obtain ⟨-, hf⟩ := m_chkE hf
  obtain ⟨o1, ho, hf⟩ := m_calE hf
  have h_o1 := (ro_X1_at ho).trans h_S
  clear ho
  obtain ⟨-, hf⟩ := m_chkE hf
  rcases m_ifE hf with ⟨-, hf⟩ | ⟨-, hf⟩
  ·
    exact (ro_X1_deepOfNext_17  hf).trans h_o1
  ·
    exact (ro_X1_deepOfNext_17  hf).trans h_o1
theorem ro_X1_deepOfNext {o : Int32 × ZS} {x0 : Nat} {x1 : Int32} {S : ZS}  (hf : f_X1_deepOfNext x0 x1 S = some o) : o.2 = S := by
  have h_S : S = S := rfl
  unfold f_X1_deepOfNext at hf
  exact (ro_X1_deepOfNext_0  hf).trans h_S
theorem ro_X6_at_22 {o : Int32 × ZS} {t0 : Int32} {S : ZS}  (hf : f_X6_at_22 t0 S = some o) : o.2 = S := by
  have h_S : S = S := rfl
  unfold f_X6_at_22 at hf
  obtain ⟨-, hf⟩ := m_chkE hf
  cases hf
  exact h_S
theorem ro_X6_at_21 {o : Int32 × ZS} {S : ZS}  (hf : f_X6_at_21 S = some o) : o.2 = S := by
  have h_S : S = S := rfl
  unfold f_X6_at_21 at hf
  exact (ro_X6_at_22  hf).trans h_S
theorem ro_X6_at_0 {o : Int32 × ZS} {x0 : Nat} {x1 : Int32} {S : ZS}  (hf : f_X6_at_0 x0 x1 S = some o) : o.2 = S := by
  have h_S : S = S := rfl
  unfold f_X6_at_0 at hf
  rcases m_ifE hf with ⟨-, hf⟩ | ⟨-, hf⟩
  ·
    exact (ro_X6_at_21  hf).trans h_S
  ·
    obtain ⟨-, hf⟩ := m_chkE hf
    rcases m_ifE hf with ⟨-, hf⟩ | ⟨-, hf⟩
    ·
      exact (ro_X6_at_21  hf).trans h_S
    ·
      obtain ⟨-, hf⟩ := m_chkE hf
      obtain ⟨b1, -, hf⟩ := m_calE hf
      obtain ⟨-, hf⟩ := m_chkE hf
      obtain ⟨-, hf⟩ := m_chkE hf
      obtain ⟨v2, -, hf⟩ := m_bndE hf
      exact (ro_X6_at_22  hf).trans h_S
theorem ro_X6_at {o : Int32 × ZS} {x0 : Nat} {x1 : Int32} {S : ZS}  (hf : f_X6_at x0 x1 S = some o) : o.2 = S := by
  have h_S : S = S := rfl
  unfold f_X6_at at hf
  exact (ro_X6_at_0  hf).trans h_S
theorem ro_X6_isLike_15s {o : Int32 × ZS} {self15 : Nat → Nat → Int32 → ZS → Option (Int32 × ZS)} {x0 : Nat} {x1 : Nat} {x2 : Int32} {S : ZS} (hself15 : ∀ (z0 : Nat) (z1 : Nat) (z2 : Int32) (S : ZS) (o : Int32 × ZS), self15 z0 z1 z2 S = some o → o.2 = S) (hf : f_X6_isLike_15s self15 x0 x1 x2 S = some o) : o.2 = S := by
  have h_S : S = S := rfl
  unfold f_X6_isLike_15s at hf
  obtain ⟨-, hf⟩ := m_chkE hf
  rcases m_ifE hf with ⟨-, hf⟩ | ⟨-, hf⟩
  ·
    obtain ⟨-, hf⟩ := m_chkE hf
    cases hf
    exact h_S
  ·
    obtain ⟨-, hf⟩ := m_chkE hf
    obtain ⟨b1, -, hf⟩ := m_calE hf
    obtain ⟨-, hf⟩ := m_chkE hf
    obtain ⟨-, hf⟩ := m_chkE hf
    obtain ⟨v2, -, hf⟩ := m_bndE hf
    obtain ⟨-, hf⟩ := m_chkE hf
    obtain ⟨o3, ho, hf⟩ := m_calE hf
    have h_o3 := (ro_X6_at ho).trans h_S
    clear ho
    rcases m_ifE hf with ⟨-, hf⟩ | ⟨-, hf⟩
    ·
      obtain ⟨v4, -, hf⟩ := m_bndE hf
      exact (hself15 _ _ _ _ _ hf).trans h_o3
    ·
      obtain ⟨-, hf⟩ := m_chkE hf
      cases hf
      exact h_o3
theorem ro_X6_isLike_15   (n : Nat) : ∀ (y0 : Nat) (y1 : Nat) (y2 : Int32) (S : ZS) (o : Int32 × ZS), f_X6_isLike_15  n y0 y1 y2 S = some o → o.2 = S := by
  induction n with
  | zero => intro y0 y1 y2 S o hf; cases hf
  | succ n ih => intro y0 y1 y2 S o hf; exact ro_X6_isLike_15s  ih hf
theorem ro_X6_isLike_0 {o : Int32 × ZS} {x0 : Nat} {x1 : Nat} {S : ZS}  (hf : f_X6_isLike_0 x0 x1 S = some o) : o.2 = S := by
  have h_S : S = S := rfl
  unfold f_X6_isLike_0 at hf
  obtain ⟨-, hf⟩ := m_chkE hf
  obtain ⟨-, hf⟩ := m_chkE hf
  rcases m_ifE hf with ⟨-, hf⟩ | ⟨-, hf⟩
  ·
    exact (ro_X6_isLike_15  _ _ _ _ _ _ hf).trans h_S
  ·
    obtain ⟨-, hf⟩ := m_chkE hf
    cases hf
    exact h_S
theorem ro_X6_isLike {o : Int32 × ZS} {x0 : Nat} {x1 : Nat} {S : ZS}  (hf : f_X6_isLike x0 x1 S = some o) : o.2 = S := by
  have h_S : S = S := rfl
  unfold f_X6_isLike at hf
  exact (ro_X6_isLike_0  hf).trans h_S
theorem ro_J0_coder_7d493_14 {o : Int32 × ZS} {t0 : Int32} {S : ZS}  (hf : f_J0_coder_7d493_14 t0 S = some o) : o.2 = S := by
  have h_S : S = S := rfl
  unfold f_J0_coder_7d493_14 at hf
  obtain ⟨-, hf⟩ := m_chkE hf
  cases hf
  exact h_S
theorem ro_J0_coder_7d493_0 {o : Int32 × ZS} {x0 : Nat} {S : ZS}  (hf : f_J0_coder_7d493_0 x0 S = some o) : o.2 = S := by
  have h_S : S = S := rfl
  unfold f_J0_coder_7d493_0 at hf
  rcases m_ifE hf with ⟨-, hf⟩ | ⟨-, hf⟩
  ·
    exact (ro_J0_coder_7d493_14  hf).trans h_S
  ·
    obtain ⟨-, hf⟩ := m_chkE hf
    exact (ro_J0_coder_7d493_14  hf).trans h_S
theorem ro_J0_coder_7d493 {o : Int32 × ZS} {x0 : Nat} {S : ZS}  (hf : f_J0_coder_7d493 x0 S = some o) : o.2 = S := by
  have h_S : S = S := rfl
  unfold f_J0_coder_7d493 at hf
  exact (ro_J0_coder_7d493_0  hf).trans h_S
theorem ro_J0_length_8abf5_0 {o : Int32 × ZS} {x0 : Nat} {S : ZS}  (hf : f_J0_length_8abf5_0 x0 S = some o) : o.2 = S := by
  have h_S : S = S := rfl
  unfold f_J0_length_8abf5_0 at hf
  obtain ⟨-, hf⟩ := m_chkE hf
  obtain ⟨-, hf⟩ := m_chkE hf
  obtain ⟨v1, -, hf⟩ := m_bndE hf
  obtain ⟨-, hf⟩ := m_chkE hf
  obtain ⟨o2, ho, hf⟩ := m_calE hf
  have h_o2 := (ro_J0_coder_7d493 ho).trans h_S
  clear ho
  obtain ⟨v3, -, hf⟩ := m_bndE hf
  cases hf
  exact h_o2
theorem ro_J0_length_8abf5 {o : Int32 × ZS} {x0 : Nat} {S : ZS}  (hf : f_J0_length_8abf5 x0 S = some o) : o.2 = S := by
  have h_S : S = S := rfl
  unfold f_J0_length_8abf5 at hf
  exact (ro_J0_length_8abf5_0  hf).trans h_S
theorem ro_J0_isLatin1_aae02_18 {o : Int32 × ZS} {t0 : Int32} {S : ZS}  (hf : f_J0_isLatin1_aae02_18 t0 S = some o) : o.2 = S := by
  have h_S : S = S := rfl
  unfold f_J0_isLatin1_aae02_18 at hf
  obtain ⟨-, hf⟩ := m_chkE hf
  cases hf
  exact h_S
theorem ro_J0_isLatin1_aae02_17 {o : Int32 × ZS} {S : ZS}  (hf : f_J0_isLatin1_aae02_17 S = some o) : o.2 = S := by
  have h_S : S = S := rfl
  unfold f_J0_isLatin1_aae02_17 at hf
  exact (ro_J0_isLatin1_aae02_18  hf).trans h_S
theorem ro_J0_isLatin1_aae02_0 {o : Int32 × ZS} {x0 : Nat} {S : ZS}  (hf : f_J0_isLatin1_aae02_0 x0 S = some o) : o.2 = S := by
  have h_S : S = S := rfl
  unfold f_J0_isLatin1_aae02_0 at hf
  rcases m_ifE hf with ⟨-, hf⟩ | ⟨-, hf⟩
  ·
    exact (ro_J0_isLatin1_aae02_17  hf).trans h_S
  ·
    obtain ⟨-, hf⟩ := m_chkE hf
    rcases m_ifE hf with ⟨-, hf⟩ | ⟨-, hf⟩
    ·
      exact (ro_J0_isLatin1_aae02_18  hf).trans h_S
    ·
      exact (ro_J0_isLatin1_aae02_17  hf).trans h_S
theorem ro_J0_isLatin1_aae02 {o : Int32 × ZS} {x0 : Nat} {S : ZS}  (hf : f_J0_isLatin1_aae02 x0 S = some o) : o.2 = S := by
  have h_S : S = S := rfl
  unfold f_J0_isLatin1_aae02 at hf
  exact (ro_J0_isLatin1_aae02_0  hf).trans h_S
theorem ro_J3_checkIndex_8e157_0 {o : Int32 × ZS} {x0 : Int32} {x1 : Int32} {S : ZS}  (hf : f_J3_checkIndex_8e157_0 x0 x1 S = some o) : o.2 = S := by
  have h_S : S = S := rfl
  unfold f_J3_checkIndex_8e157_0 at hf
  rcases m_ifE hf with ⟨-, hf⟩ | ⟨-, hf⟩
  ·
    cases hf
  ·
    rcases m_ifE hf with ⟨-, hf⟩ | ⟨-, hf⟩
    ·
      cases hf
      exact h_S
    ·
      cases hf
theorem ro_J3_checkIndex_8e157 {o : Int32 × ZS} {x0 : Int32} {x1 : Int32} {S : ZS}  (hf : f_J3_checkIndex_8e157 x0 x1 S = some o) : o.2 = S := by
  have h_S : S = S := rfl
  unfold f_J3_checkIndex_8e157 at hf
  exact (ro_J3_checkIndex_8e157_0  hf).trans h_S
theorem ro_J0_checkIndex_df160_0 {o : Int32 × ZS} {x0 : Int32} {x1 : Int32} {S : ZS}  (hf : f_J0_checkIndex_df160_0 x0 x1 S = some o) : o.2 = S := by
  have h_S : S = S := rfl
  unfold f_J0_checkIndex_df160_0 at hf
  obtain ⟨o1, ho, hf⟩ := m_calE hf
  have h_o1 := (ro_J3_checkIndex_8e157 ho).trans h_S
  clear ho
  cases hf
  exact h_o1
theorem ro_J0_checkIndex_df160 {o : Int32 × ZS} {x0 : Int32} {x1 : Int32} {S : ZS}  (hf : f_J0_checkIndex_df160 x0 x1 S = some o) : o.2 = S := by
  have h_S : S = S := rfl
  unfold f_J0_checkIndex_df160 at hf
  exact (ro_J0_checkIndex_df160_0  hf).trans h_S
theorem ro_J1_charAt_3b067_0 {o : Int32 × ZS} {x0 : Nat} {x1 : Int32} {S : ZS}  (hf : f_J1_charAt_3b067_0 x0 x1 S = some o) : o.2 = S := by
  have h_S : S = S := rfl
  unfold f_J1_charAt_3b067_0 at hf
  obtain ⟨-, hf⟩ := m_chkE hf
  obtain ⟨v1, -, hf⟩ := m_bndE hf
  obtain ⟨o2, ho, hf⟩ := m_calE hf
  have h_o2 := (ro_J0_checkIndex_df160 ho).trans h_S
  clear ho
  obtain ⟨-, hf⟩ := m_chkE hf
  obtain ⟨-, hf⟩ := m_chkE hf
  obtain ⟨v3, -, hf⟩ := m_bndE hf
  obtain ⟨v4, -, hf⟩ := m_bndE hf
  obtain ⟨v5, -, hf⟩ := m_bndE hf
  obtain ⟨-, hf⟩ := m_chkE hf
  cases hf
  exact h_o2
theorem ro_J1_charAt_3b067 {o : Int32 × ZS} {x0 : Nat} {x1 : Int32} {S : ZS}  (hf : f_J1_charAt_3b067 x0 x1 S = some o) : o.2 = S := by
  have h_S : S = S := rfl
  unfold f_J1_charAt_3b067 at hf
  exact (ro_J1_charAt_3b067_0  hf).trans h_S
theorem ro_J0_charAt_5068e_0 {o : Int32 × ZS} {x0 : Nat} {x1 : Int32} {S : ZS}  (hf : f_J0_charAt_5068e_0 x0 x1 S = some o) : o.2 = S := by
  have h_S : S = S := rfl
  unfold f_J0_charAt_5068e_0 at hf
  obtain ⟨-, hf⟩ := m_chkE hf
  obtain ⟨o1, ho, hf⟩ := m_calE hf
  have h_o1 := (ro_J0_isLatin1_aae02 ho).trans h_S
  clear ho
  rcases m_ifE hf with ⟨-, hf⟩ | ⟨-, hf⟩
  ·
    cases hf
  ·
    obtain ⟨-, hf⟩ := m_chkE hf
    obtain ⟨o2, ho, hf⟩ := m_calE hf
    have h_o2 := (ro_J1_charAt_3b067 ho).trans h_o1
    clear ho
    obtain ⟨-, hf⟩ := m_chkE hf
    cases hf
    exact h_o2
theorem ro_J0_charAt_5068e {o : Int32 × ZS} {x0 : Nat} {x1 : Int32} {S : ZS}  (hf : f_J0_charAt_5068e x0 x1 S = some o) : o.2 = S := by
  have h_S : S = S := rfl
  unfold f_J0_charAt_5068e at hf
  exact (ro_J0_charAt_5068e_0  hf).trans h_S
theorem ro_X6_holds_17 {o : Int32 × ZS} {S : ZS}  (hf : f_X6_holds_17 S = some o) : o.2 = S := by
  have h_S : S = S := rfl
  unfold f_X6_holds_17 at hf
  obtain ⟨-, hf⟩ := m_chkE hf
  cases hf
  exact h_S
theorem ro_X6_holds_21s {o : Int32 × ZS} {self21 : Nat → Nat → Int32 → Int32 → ZS → Option (Int32 × ZS)} {x0 : Nat} {x1 : Nat} {x2 : Int32} {x3 : Int32} {S : ZS} (hself21 : ∀ (z0 : Nat) (z1 : Nat) (z2 : Int32) (z3 : Int32) (S : ZS) (o : Int32 × ZS), self21 z0 z1 z2 z3 S = some o → o.2 = S) (hf : f_X6_holds_21s self21 x0 x1 x2 x3 S = some o) : o.2 = S := by
  have h_S : S = S := rfl
  unfold f_X6_holds_21s at hf
  obtain ⟨-, hf⟩ := m_chkE hf
  obtain ⟨o1, ho, hf⟩ := m_calE hf
  have h_o1 := (ro_J0_length_8abf5 ho).trans h_S
  clear ho
  rcases m_ifE hf with ⟨-, hf⟩ | ⟨-, hf⟩
  ·
    obtain ⟨-, hf⟩ := m_chkE hf
    cases hf
    exact h_o1
  ·
    obtain ⟨-, hf⟩ := m_chkE hf
    obtain ⟨b2, -, hf⟩ := m_calE hf
    obtain ⟨v3, -, hf⟩ := m_bndE hf
    obtain ⟨-, hf⟩ := m_chkE hf
    obtain ⟨-, hf⟩ := m_chkE hf
    obtain ⟨v4, -, hf⟩ := m_bndE hf
    obtain ⟨-, hf⟩ := m_chkE hf
    obtain ⟨o5, ho, hf⟩ := m_calE hf
    have h_o5 := (ro_J0_charAt_5068e ho).trans h_o1
    clear ho
    rcases m_ifE hf with ⟨-, hf⟩ | ⟨-, hf⟩
    ·
      obtain ⟨v6, -, hf⟩ := m_bndE hf
      exact (hself21 _ _ _ _ _ _ hf).trans h_o5
    ·
      obtain ⟨-, hf⟩ := m_chkE hf
      cases hf
      exact h_o5
theorem ro_X6_holds_21   (n : Nat) : ∀ (y0 : Nat) (y1 : Nat) (y2 : Int32) (y3 : Int32) (S : ZS) (o : Int32 × ZS), f_X6_holds_21  n y0 y1 y2 y3 S = some o → o.2 = S := by
  induction n with
  | zero => intro y0 y1 y2 y3 S o hf; cases hf
  | succ n ih => intro y0 y1 y2 y3 S o hf; exact ro_X6_holds_21s  ih hf
theorem ro_X6_holds_0 {o : Int32 × ZS} {x0 : Nat} {x1 : Nat} {x2 : Int32} {S : ZS}  (hf : f_X6_holds_0 x0 x1 x2 S = some o) : o.2 = S := by
  have h_S : S = S := rfl
  unfold f_X6_holds_0 at hf
  rcases m_ifE hf with ⟨-, hf⟩ | ⟨-, hf⟩
  ·
    exact (ro_X6_holds_17  hf).trans h_S
  ·
    obtain ⟨-, hf⟩ := m_chkE hf
    obtain ⟨o1, ho, hf⟩ := m_calE hf
    have h_o1 := (ro_J0_length_8abf5 ho).trans h_S
    clear ho
    obtain ⟨v2, -, hf⟩ := m_bndE hf
    obtain ⟨-, hf⟩ := m_chkE hf
    rcases m_ifE hf with ⟨-, hf⟩ | ⟨-, hf⟩
    ·
      exact (ro_X6_holds_21  _ _ _ _ _ _ _ hf).trans h_o1
    ·
      exact (ro_X6_holds_17  hf).trans h_o1
theorem ro_X6_holds {o : Int32 × ZS} {x0 : Nat} {x1 : Nat} {x2 : Int32} {S : ZS}  (hf : f_X6_holds x0 x1 x2 S = some o) : o.2 = S := by
  have h_S : S = S := rfl
  unfold f_X6_holds at hf
  exact (ro_X6_holds_0  hf).trans h_S
theorem ro_X6_is_25 {o : Int32 × ZS} {t0 : Int32} {S : ZS}  (hf : f_X6_is_25 t0 S = some o) : o.2 = S := by
  have h_S : S = S := rfl
  unfold f_X6_is_25 at hf
  obtain ⟨-, hf⟩ := m_chkE hf
  cases hf
  exact h_S
theorem ro_X6_is_24 {o : Int32 × ZS} {S : ZS}  (hf : f_X6_is_24 S = some o) : o.2 = S := by
  have h_S : S = S := rfl
  unfold f_X6_is_24 at hf
  exact (ro_X6_is_25  hf).trans h_S
theorem ro_X6_is_0 {o : Int32 × ZS} {x0 : Nat} {x1 : Nat} {S : ZS}  (hf : f_X6_is_0 x0 x1 S = some o) : o.2 = S := by
  have h_S : S = S := rfl
  unfold f_X6_is_0 at hf
  obtain ⟨-, hf⟩ := m_chkE hf
  obtain ⟨-, hf⟩ := m_chkE hf
  obtain ⟨o1, ho, hf⟩ := m_calE hf
  have h_o1 := (ro_J0_length_8abf5 ho).trans h_S
  clear ho
  rcases m_ifE hf with ⟨-, hf⟩ | ⟨-, hf⟩
  ·
    obtain ⟨-, hf⟩ := m_chkE hf
    obtain ⟨o2, ho, hf⟩ := m_calE hf
    have h_o2 := (ro_X6_holds ho).trans h_o1
    clear ho
    rcases m_ifE hf with ⟨-, hf⟩ | ⟨-, hf⟩
    ·
      exact (ro_X6_is_24  hf).trans h_o2
    ·
      exact (ro_X6_is_25  hf).trans h_o2
  ·
    exact (ro_X6_is_24  hf).trans h_o1
theorem ro_X6_is {o : Int32 × ZS} {x0 : Nat} {x1 : Nat} {S : ZS}  (hf : f_X6_is x0 x1 S = some o) : o.2 = S := by
  have h_S : S = S := rfl
  unfold f_X6_is at hf
  exact (ro_X6_is_0  hf).trans h_S
theorem ro_X11_resultSign_0 {o : Nat × ZS} {x0 : Int32} {S : ZS}  (hf : f_X11_resultSign_0 x0 S = some o) : o.2 = S := by
  have h_S : S = S := rfl
  unfold f_X11_resultSign_0 at hf
  rcases m_ifE hf with ⟨-, hf⟩ | ⟨-, hf⟩
  ·
    cases hf
    exact h_S
  ·
    rcases m_ifE hf with ⟨-, hf⟩ | ⟨-, hf⟩
    ·
      cases hf
      exact h_S
    ·
      rcases m_ifE hf with ⟨-, hf⟩ | ⟨-, hf⟩
      ·
        cases hf
        exact h_S
      ·
        cases hf
        exact h_S
theorem ro_X11_resultSign {o : Nat × ZS} {x0 : Int32} {S : ZS}  (hf : f_X11_resultSign x0 S = some o) : o.2 = S := by
  have h_S : S = S := rfl
  unfold f_X11_resultSign at hf
  exact (ro_X11_resultSign_0  hf).trans h_S
theorem ro_X2_fault_0 {o : Int32 × ZS} {x0 : Nat} {S : ZS}  (hf : f_X2_fault_0 x0 S = some o) : o.2 = S := by
  have h_S : S = S := rfl
  unfold f_X2_fault_0 at hf
  obtain ⟨-, hf⟩ := m_chkE hf
  cases hf
  exact h_S
theorem ro_X2_fault {o : Int32 × ZS} {x0 : Nat} {S : ZS}  (hf : f_X2_fault x0 S = some o) : o.2 = S := by
  have h_S : S = S := rfl
  unfold f_X2_fault at hf
  exact (ro_X2_fault_0  hf).trans h_S
theorem ro_X6_size_0 {o : Int32 × ZS} {x0 : Nat} {S : ZS}  (hf : f_X6_size_0 x0 S = some o) : o.2 = S := by
  have h_S : S = S := rfl
  unfold f_X6_size_0 at hf
  obtain ⟨-, hf⟩ := m_chkE hf
  cases hf
  exact h_S
theorem ro_X6_size {o : Int32 × ZS} {x0 : Nat} {S : ZS}  (hf : f_X6_size x0 S = some o) : o.2 = S := by
  have h_S : S = S := rfl
  unfold f_X6_size at hf
  exact (ro_X6_size_0  hf).trans h_S
theorem ro_X11_isLetter_29 {o : Int32 × ZS} {t0 : Int32} {S : ZS}  (hf : f_X11_isLetter_29 t0 S = some o) : o.2 = S := by
  have h_S : S = S := rfl
  unfold f_X11_isLetter_29 at hf
  obtain ⟨-, hf⟩ := m_chkE hf
  cases hf
  exact h_S
theorem ro_X11_isLetter_28 {o : Int32 × ZS} {S : ZS}  (hf : f_X11_isLetter_28 S = some o) : o.2 = S := by
  have h_S : S = S := rfl
  unfold f_X11_isLetter_28 at hf
  exact (ro_X11_isLetter_29  hf).trans h_S
theorem ro_X11_isLetter_24 {o : Int32 × ZS} {S : ZS}  (hf : f_X11_isLetter_24 S = some o) : o.2 = S := by
  have h_S : S = S := rfl
  unfold f_X11_isLetter_24 at hf
  exact (ro_X11_isLetter_29  hf).trans h_S
theorem ro_X11_isLetter_12 {o : Int32 × ZS} {x0 : Int32} {S : ZS}  (hf : f_X11_isLetter_12 x0 S = some o) : o.2 = S := by
  have h_S : S = S := rfl
  unfold f_X11_isLetter_12 at hf
  rcases m_ifE hf with ⟨-, hf⟩ | ⟨-, hf⟩
  ·
    exact (ro_X11_isLetter_28  hf).trans h_S
  ·
    rcases m_ifE hf with ⟨-, hf⟩ | ⟨-, hf⟩
    ·
      exact (ro_X11_isLetter_28  hf).trans h_S
    ·
      exact (ro_X11_isLetter_24  hf).trans h_S
theorem ro_X11_isLetter_0 {o : Int32 × ZS} {x0 : Int32} {S : ZS}  (hf : f_X11_isLetter_0 x0 S = some o) : o.2 = S := by
  have h_S : S = S := rfl
  unfold f_X11_isLetter_0 at hf
  rcases m_ifE hf with ⟨-, hf⟩ | ⟨-, hf⟩
  ·
    exact (ro_X11_isLetter_12  hf).trans h_S
  ·
    rcases m_ifE hf with ⟨-, hf⟩ | ⟨-, hf⟩
    ·
      exact (ro_X11_isLetter_24  hf).trans h_S
    ·
      exact (ro_X11_isLetter_12  hf).trans h_S
theorem ro_X11_isLetter {o : Int32 × ZS} {x0 : Int32} {S : ZS}  (hf : f_X11_isLetter x0 S = some o) : o.2 = S := by
  have h_S : S = S := rfl
  unfold f_X11_isLetter at hf
  exact (ro_X11_isLetter_0  hf).trans h_S
theorem ro_X11_isDigit_17 {o : Int32 × ZS} {t0 : Int32} {S : ZS}  (hf : f_X11_isDigit_17 t0 S = some o) : o.2 = S := by
  have h_S : S = S := rfl
  unfold f_X11_isDigit_17 at hf
  obtain ⟨-, hf⟩ := m_chkE hf
  cases hf
  exact h_S
theorem ro_X11_isDigit_16 {o : Int32 × ZS} {S : ZS}  (hf : f_X11_isDigit_16 S = some o) : o.2 = S := by
  have h_S : S = S := rfl
  unfold f_X11_isDigit_16 at hf
  exact (ro_X11_isDigit_17  hf).trans h_S
theorem ro_X11_isDigit_0 {o : Int32 × ZS} {x0 : Int32} {S : ZS}  (hf : f_X11_isDigit_0 x0 S = some o) : o.2 = S := by
  have h_S : S = S := rfl
  unfold f_X11_isDigit_0 at hf
  rcases m_ifE hf with ⟨-, hf⟩ | ⟨-, hf⟩
  ·
    exact (ro_X11_isDigit_16  hf).trans h_S
  ·
    rcases m_ifE hf with ⟨-, hf⟩ | ⟨-, hf⟩
    ·
      exact (ro_X11_isDigit_16  hf).trans h_S
    ·
      exact (ro_X11_isDigit_17  hf).trans h_S
theorem ro_X11_isDigit {o : Int32 × ZS} {x0 : Int32} {S : ZS}  (hf : f_X11_isDigit x0 S = some o) : o.2 = S := by
  have h_S : S = S := rfl
  unfold f_X11_isDigit at hf
  exact (ro_X11_isDigit_0  hf).trans h_S
theorem ro_X11_isRank_17 {o : Int32 × ZS} {t0 : Int32} {S : ZS}  (hf : f_X11_isRank_17 t0 S = some o) : o.2 = S := by
  have h_S : S = S := rfl
  unfold f_X11_isRank_17 at hf
  obtain ⟨-, hf⟩ := m_chkE hf
  cases hf
  exact h_S
theorem ro_X11_isRank_16 {o : Int32 × ZS} {S : ZS}  (hf : f_X11_isRank_16 S = some o) : o.2 = S := by
  have h_S : S = S := rfl
  unfold f_X11_isRank_16 at hf
  exact (ro_X11_isRank_17  hf).trans h_S
theorem ro_X11_isRank_0 {o : Int32 × ZS} {x0 : Int32} {S : ZS}  (hf : f_X11_isRank_0 x0 S = some o) : o.2 = S := by
  have h_S : S = S := rfl
  unfold f_X11_isRank_0 at hf
  rcases m_ifE hf with ⟨-, hf⟩ | ⟨-, hf⟩
  ·
    exact (ro_X11_isRank_16  hf).trans h_S
  ·
    rcases m_ifE hf with ⟨-, hf⟩ | ⟨-, hf⟩
    ·
      exact (ro_X11_isRank_16  hf).trans h_S
    ·
      exact (ro_X11_isRank_17  hf).trans h_S
theorem ro_X11_isRank {o : Int32 × ZS} {x0 : Int32} {S : ZS}  (hf : f_X11_isRank x0 S = some o) : o.2 = S := by
  have h_S : S = S := rfl
  unfold f_X11_isRank at hf
  exact (ro_X11_isRank_0  hf).trans h_S
theorem ro_J1_canEncode_9a6ad_16 {o : Int32 × ZS} {t0 : Int32} {S : ZS}  (hf : f_J1_canEncode_9a6ad_16 t0 S = some o) : o.2 = S := by
  have h_S : S = S := rfl
  unfold f_J1_canEncode_9a6ad_16 at hf
  obtain ⟨-, hf⟩ := m_chkE hf
  cases hf
  exact h_S
theorem ro_J1_canEncode_9a6ad_15 {o : Int32 × ZS} {S : ZS}  (hf : f_J1_canEncode_9a6ad_15 S = some o) : o.2 = S := by
  have h_S : S = S := rfl
  unfold f_J1_canEncode_9a6ad_15 at hf
  exact (ro_J1_canEncode_9a6ad_16  hf).trans h_S
theorem ro_J1_canEncode_9a6ad_0 {o : Int32 × ZS} {x0 : Int32} {S : ZS}  (hf : f_J1_canEncode_9a6ad_0 x0 S = some o) : o.2 = S := by
  have h_S : S = S := rfl
  unfold f_J1_canEncode_9a6ad_0 at hf
  rcases m_ifE hf with ⟨-, hf⟩ | ⟨-, hf⟩
  ·
    exact (ro_J1_canEncode_9a6ad_15  hf).trans h_S
  ·
    rcases m_ifE hf with ⟨-, hf⟩ | ⟨-, hf⟩
    ·
      exact (ro_J1_canEncode_9a6ad_15  hf).trans h_S
    ·
      exact (ro_J1_canEncode_9a6ad_16  hf).trans h_S
theorem ro_J1_canEncode_9a6ad {o : Int32 × ZS} {x0 : Int32} {S : ZS}  (hf : f_J1_canEncode_9a6ad x0 S = some o) : o.2 = S := by
  have h_S : S = S := rfl
  unfold f_J1_canEncode_9a6ad at hf
  exact (ro_J1_canEncode_9a6ad_0  hf).trans h_S
theorem ro_J1_indexOfChar_4cfef_7s {o : Int32 × ZS} {self7 : Nat → Int32 → Int32 → Int32 → ZS → Option (Int32 × ZS)} {x0 : Nat} {x3 : Int32} {x4 : Int32} {x5 : Int32} {S : ZS} (hself7 : ∀ (z0 : Nat) (z1 : Int32) (z2 : Int32) (z3 : Int32) (S : ZS) (o : Int32 × ZS), self7 z0 z1 z2 z3 S = some o → o.2 = S) (hf : f_J1_indexOfChar_4cfef_7s self7 x0 x3 x4 x5 S = some o) : o.2 = S := by
  have h_S : S = S := rfl
  unfold f_J1_indexOfChar_4cfef_7s at hf
  rcases m_ifE hf with ⟨-, hf⟩ | ⟨-, hf⟩
  ·
    cases hf
    exact h_S
  ·
    obtain ⟨-, hf⟩ := m_chkE hf
    obtain ⟨-, hf⟩ := m_chkE hf
    obtain ⟨v1, -, hf⟩ := m_bndE hf
    rcases m_ifE hf with ⟨-, hf⟩ | ⟨-, hf⟩
    ·
      cases hf
      exact h_S
    ·
      obtain ⟨v2, -, hf⟩ := m_bndE hf
      exact (hself7 _ _ _ _ _ _ hf).trans h_S
theorem ro_J1_indexOfChar_4cfef_7   (n : Nat) : ∀ (y0 : Nat) (y1 : Int32) (y2 : Int32) (y3 : Int32) (S : ZS) (o : Int32 × ZS), f_J1_indexOfChar_4cfef_7  n y0 y1 y2 y3 S = some o → o.2 = S := by
  induction n with
  | zero => intro y0 y1 y2 y3 S o hf; cases hf
  | succ n ih => intro y0 y1 y2 y3 S o hf; exact ro_J1_indexOfChar_4cfef_7s  ih hf
theorem ro_J1_indexOfChar_4cfef_0 {o : Int32 × ZS} {x0 : Nat} {x1 : Int32} {x2 : Int32} {x3 : Int32} {S : ZS}  (hf : f_J1_indexOfChar_4cfef_0 x0 x1 x2 x3 S = some o) : o.2 = S := by
  have h_S : S = S := rfl
  unfold f_J1_indexOfChar_4cfef_0 at hf
  obtain ⟨v1, -, hf⟩ := m_bndE hf
  exact (ro_J1_indexOfChar_4cfef_7  _ _ _ _ _ _ _ hf).trans h_S
theorem ro_J1_indexOfChar_4cfef {o : Int32 × ZS} {x0 : Nat} {x1 : Int32} {x2 : Int32} {x3 : Int32} {S : ZS}  (hf : f_J1_indexOfChar_4cfef x0 x1 x2 x3 S = some o) : o.2 = S := by
  have h_S : S = S := rfl
  unfold f_J1_indexOfChar_4cfef at hf
  exact (ro_J1_indexOfChar_4cfef_0  hf).trans h_S
theorem ro_J1_indexOf_4cfef_0 {o : Int32 × ZS} {x0 : Nat} {x1 : Int32} {x2 : Int32} {x3 : Int32} {S : ZS}  (hf : f_J1_indexOf_4cfef_0 x0 x1 x2 x3 S = some o) : o.2 = S := by
  have h_S : S = S := rfl
  unfold f_J1_indexOf_4cfef_0 at hf
  obtain ⟨o1, ho, hf⟩ := m_calE hf
  have h_o1 := (ro_J1_canEncode_9a6ad ho).trans h_S
  clear ho
  rcases m_ifE hf with ⟨-, hf⟩ | ⟨-, hf⟩
  ·
    cases hf
    exact h_o1
  ·
    obtain ⟨v2, -, hf⟩ := m_bndE hf
    obtain ⟨-, hf⟩ := m_chkE hf
    obtain ⟨v3, -, hf⟩ := m_bndE hf
    obtain ⟨v4, -, hf⟩ := m_bndE hf
    rcases m_ifE hf with ⟨-, hf⟩ | ⟨-, hf⟩
    ·
      obtain ⟨o5, ho, hf⟩ := m_calE hf
      have h_o5 := (ro_J1_indexOfChar_4cfef ho).trans h_o1
      clear ho
      cases hf
      exact h_o5
    ·
      cases hf
      exact h_o1
theorem ro_J1_indexOf_4cfef {o : Int32 × ZS} {x0 : Nat} {x1 : Int32} {x2 : Int32} {x3 : Int32} {S : ZS}  (hf : f_J1_indexOf_4cfef x0 x1 x2 x3 S = some o) : o.2 = S := by
  have h_S : S = S := rfl
  unfold f_J1_indexOf_4cfef at hf
  exact (ro_J1_indexOf_4cfef_0  hf).trans h_S
theorem ro_J0_indexOf_7cf53_0 {o : Int32 × ZS} {x0 : Nat} {x1 : Int32} {x2 : Int32} {S : ZS}  (hf : f_J0_indexOf_7cf53_0 x0 x1 x2 S = some o) : o.2 = S := by
  have h_S : S = S := rfl
  unfold f_J0_indexOf_7cf53_0 at hf
  obtain ⟨-, hf⟩ := m_chkE hf
  obtain ⟨o1, ho, hf⟩ := m_calE hf
  have h_o1 := (ro_J0_isLatin1_aae02 ho).trans h_S
  clear ho
  rcases m_ifE hf with ⟨-, hf⟩ | ⟨-, hf⟩
  ·
    cases hf
  ·
    obtain ⟨-, hf⟩ := m_chkE hf
    obtain ⟨-, hf⟩ := m_chkE hf
    obtain ⟨o2, ho, hf⟩ := m_calE hf
    have h_o2 := (ro_J0_length_8abf5 ho).trans h_o1
    clear ho
    obtain ⟨o3, ho, hf⟩ := m_calE hf
    have h_o3 := (ro_J1_indexOf_4cfef ho).trans h_o2
    clear ho
    cases hf
    exact h_o3
theorem ro_J0_indexOf_7cf53 {o : Int32 × ZS} {x0 : Nat} {x1 : Int32} {x2 : Int32} {S : ZS}  (hf : f_J0_indexOf_7cf53 x0 x1 x2 S = some o) : o.2 = S := by
  have h_S : S = S := rfl
  unfold f_J0_indexOf_7cf53 at hf
  exact (ro_J0_indexOf_7cf53_0  hf).trans h_S
theorem ro_J0_indexOf_0f7a4_0 {o : Int32 × ZS} {x0 : Nat} {x1 : Int32} {S : ZS}  (hf : f_J0_indexOf_0f7a4_0 x0 x1 S = some o) : o.2 = S := by
  have h_S : S = S := rfl
  unfold f_J0_indexOf_0f7a4_0 at hf
  obtain ⟨-, hf⟩ := m_chkE hf
  obtain ⟨o1, ho, hf⟩ := m_calE hf
  have h_o1 := (ro_J0_indexOf_7cf53 ho).trans h_S
  clear ho
  cases hf
  exact h_o1
theorem ro_J0_indexOf_0f7a4 {o : Int32 × ZS} {x0 : Nat} {x1 : Int32} {S : ZS}  (hf : f_J0_indexOf_0f7a4 x0 x1 S = some o) : o.2 = S := by
  have h_S : S = S := rfl
  unfold f_J0_indexOf_0f7a4 at hf
  exact (ro_J0_indexOf_0f7a4_0  hf).trans h_S
theorem ro_X11_isFile_17 {o : Int32 × ZS} {t0 : Int32} {S : ZS}  (hf : f_X11_isFile_17 t0 S = some o) : o.2 = S := by
  have h_S : S = S := rfl
  unfold f_X11_isFile_17 at hf
  obtain ⟨-, hf⟩ := m_chkE hf
  cases hf
  exact h_S
theorem ro_X11_isFile_16 {o : Int32 × ZS} {S : ZS}  (hf : f_X11_isFile_16 S = some o) : o.2 = S := by
  have h_S : S = S := rfl
  unfold f_X11_isFile_16 at hf
  exact (ro_X11_isFile_17  hf).trans h_S
theorem ro_X11_isFile_0 {o : Int32 × ZS} {x0 : Int32} {S : ZS}  (hf : f_X11_isFile_0 x0 S = some o) : o.2 = S := by
  have h_S : S = S := rfl
  unfold f_X11_isFile_0 at hf
  rcases m_ifE hf with ⟨-, hf⟩ | ⟨-, hf⟩
  ·
    exact (ro_X11_isFile_16  hf).trans h_S
  ·
    rcases m_ifE hf with ⟨-, hf⟩ | ⟨-, hf⟩
    ·
      exact (ro_X11_isFile_16  hf).trans h_S
    ·
      exact (ro_X11_isFile_17  hf).trans h_S
theorem ro_X11_isFile {o : Int32 × ZS} {x0 : Int32} {S : ZS}  (hf : f_X11_isFile x0 S = some o) : o.2 = S := by
  have h_S : S = S := rfl
  unfold f_X11_isFile at hf
  exact (ro_X11_isFile_0  hf).trans h_S
theorem ro_X11_squareOf_30 {o : Int32 × ZS} {t0 : Int32} {S : ZS}  (hf : f_X11_squareOf_30 t0 S = some o) : o.2 = S := by
  have h_S : S = S := rfl
  unfold f_X11_squareOf_30 at hf
  cases hf
  exact h_S
theorem ro_X11_squareOf_29 {o : Int32 × ZS} {S : ZS}  (hf : f_X11_squareOf_29 S = some o) : o.2 = S := by
  have h_S : S = S := rfl
  unfold f_X11_squareOf_29 at hf
  exact (ro_X11_squareOf_30  hf).trans h_S
theorem ro_X11_squareOf_0 {o : Int32 × ZS} {x0 : Int32} {x1 : Int32} {S : ZS}  (hf : f_X11_squareOf_0 x0 x1 S = some o) : o.2 = S := by
  have h_S : S = S := rfl
  unfold f_X11_squareOf_0 at hf
  obtain ⟨o1, ho, hf⟩ := m_calE hf
  have h_o1 := (ro_X11_isFile ho).trans h_S
  clear ho
  rcases m_ifE hf with ⟨-, hf⟩ | ⟨-, hf⟩
  ·
    exact (ro_X11_squareOf_29  hf).trans h_o1
  ·
    obtain ⟨o2, ho, hf⟩ := m_calE hf
    have h_o2 := (ro_X11_isRank ho).trans h_o1
    clear ho
    rcases m_ifE hf with ⟨-, hf⟩ | ⟨-, hf⟩
    ·
      exact (ro_X11_squareOf_29  hf).trans h_o2
    ·
      obtain ⟨v3, -, hf⟩ := m_bndE hf
      obtain ⟨v4, -, hf⟩ := m_bndE hf
      obtain ⟨v5, -, hf⟩ := m_bndE hf
      obtain ⟨v6, -, hf⟩ := m_bndE hf
      exact (ro_X11_squareOf_30  hf).trans h_o2
theorem ro_X11_squareOf {o : Int32 × ZS} {x0 : Int32} {x1 : Int32} {S : ZS}  (hf : f_X11_squareOf x0 x1 S = some o) : o.2 = S := by
  have h_S : S = S := rfl
  unfold f_X11_squareOf at hf
  exact (ro_X11_squareOf_0  hf).trans h_S
theorem ro_X5_hasSoundMen_115 {o : Int32 × ZS} {t0 : Int32} {S : ZS}  (hf : f_X5_hasSoundMen_115 t0 S = some o) : o.2 = S := by
  have h_S : S = S := rfl
  unfold f_X5_hasSoundMen_115 at hf
  obtain ⟨-, hf⟩ := m_chkE hf
  cases hf
  exact h_S
theorem ro_X5_hasSoundMen_114 {o : Int32 × ZS} {S : ZS}  (hf : f_X5_hasSoundMen_114 S = some o) : o.2 = S := by
  have h_S : S = S := rfl
  unfold f_X5_hasSoundMen_114 at hf
  exact (ro_X5_hasSoundMen_115  hf).trans h_S
theorem ro_X5_hasSoundMen_73 {o : Int32 × ZS} {self6 : Nat → Int32 → Int32 → Int32 → ZS → Option (Int32 × ZS)} {x0 : Nat} {x1 : Int32} {x2 : Int32} {x3 : Int32} {S : ZS} (hself6 : ∀ (z0 : Nat) (z1 : Int32) (z2 : Int32) (z3 : Int32) (S : ZS) (o : Int32 × ZS), self6 z0 z1 z2 z3 S = some o → o.2 = S) (hf : f_X5_hasSoundMen_73 self6 x0 x1 x2 x3 S = some o) : o.2 = S := by
  have h_S : S = S := rfl
  unfold f_X5_hasSoundMen_73 at hf
  obtain ⟨v1, -, hf⟩ := m_bndE hf
  exact (hself6 _ _ _ _ _ _ hf).trans h_S
theorem ro_X5_hasSoundMen_71 {o : Int32 × ZS} {S : ZS}  (hf : f_X5_hasSoundMen_71 S = some o) : o.2 = S := by
  have h_S : S = S := rfl
  unfold f_X5_hasSoundMen_71 at hf
  obtain ⟨-, hf⟩ := m_chkE hf
  cases hf
  exact h_S
theorem ro_X5_hasSoundMen_48 {o : Int32 × ZS} {self6 : Nat → Int32 → Int32 → Int32 → ZS → Option (Int32 × ZS)} {x0 : Nat} {x1 : Int32} {x3 : Int32} {t0 : Int32} {t1 : Int32} {S : ZS} (hself6 : ∀ (z0 : Nat) (z1 : Int32) (z2 : Int32) (z3 : Int32) (S : ZS) (o : Int32 × ZS), self6 z0 z1 z2 z3 S = some o → o.2 = S) (hf : f_X5_hasSoundMen_48 self6 x0 x1 x3 t0 t1 S = some o) : o.2 = S := by
  have h_S : S = S := rfl
  unfold f_X5_hasSoundMen_48 at hf
  obtain ⟨v1, -, hf⟩ := m_bndE hf
  obtain ⟨-, hf⟩ := m_chkE hf
  obtain ⟨o2, ho, hf⟩ := m_calE hf
  have h_o2 := (ro_X0_kindAt ho).trans h_S
  clear ho
  rcases m_ifE hf with ⟨-, hf⟩ | ⟨-, hf⟩
  ·
    rcases m_ifE hf with ⟨-, hf⟩ | ⟨-, hf⟩
    ·
      exact (ro_X5_hasSoundMen_71  hf).trans h_o2
    ·
      rcases m_ifE hf with ⟨-, hf⟩ | ⟨-, hf⟩
      ·
        exact (ro_X5_hasSoundMen_73 hself6 hf).trans h_o2
      ·
        exact (ro_X5_hasSoundMen_71  hf).trans h_o2
  ·
    exact (ro_X5_hasSoundMen_73 hself6 hf).trans h_o2
theorem ro_X5_hasSoundMen_29 {o : Int32 × ZS} {self6 : Nat → Int32 → Int32 → Int32 → ZS → Option (Int32 × ZS)} {x0 : Nat} {x2 : Int32} {x3 : Int32} {t0 : Int32} {t1 : Int32} {S : ZS} (hself6 : ∀ (z0 : Nat) (z1 : Int32) (z2 : Int32) (z3 : Int32) (S : ZS) (o : Int32 × ZS), self6 z0 z1 z2 z3 S = some o → o.2 = S) (hf : f_X5_hasSoundMen_29 self6 x0 x2 x3 t0 t1 S = some o) : o.2 = S := by
  have h_S : S = S := rfl
  unfold f_X5_hasSoundMen_29 at hf
  obtain ⟨v1, -, hf⟩ := m_bndE hf
  obtain ⟨-, hf⟩ := m_chkE hf
  obtain ⟨b2, -, hf⟩ := m_calE hf
  obtain ⟨-, hf⟩ := m_chkE hf
  obtain ⟨-, hf⟩ := m_chkE hf
  obtain ⟨v3, -, hf⟩ := m_bndE hf
  rcases m_ifE hf with ⟨-, hf⟩ | ⟨-, hf⟩
  ·
    exact (ro_X5_hasSoundMen_48 hself6 hf).trans h_S
  ·
    exact (ro_X5_hasSoundMen_48 hself6 hf).trans h_S
theorem ro_X5_hasSoundMen_6s {o : Int32 × ZS} {self6 : Nat → Int32 → Int32 → Int32 → ZS → Option (Int32 × ZS)} {x0 : Nat} {x1 : Int32} {x2 : Int32} {x3 : Int32} {S : ZS} (hself6 : ∀ (z0 : Nat) (z1 : Int32) (z2 : Int32) (z3 : Int32) (S : ZS) (o : Int32 × ZS), self6 z0 z1 z2 z3 S = some o → o.2 = S) (hf : f_X5_hasSoundMen_6s self6 x0 x1 x2 x3 S = some o) : o.2 = S := by
  have h_S : S = S := rfl
  unfold f_X5_hasSoundMen_6s at hf
  rcases m_ifE hf with ⟨-, hf⟩ | ⟨-, hf⟩
  ·
    rcases m_ifE hf with ⟨-, hf⟩ | ⟨-, hf⟩
    ·
      rcases m_ifE hf with ⟨-, hf⟩ | ⟨-, hf⟩
      ·
        obtain ⟨-, hf⟩ := m_chkE hf
        obtain ⟨v1, -, hf⟩ := m_bndE hf
        obtain ⟨-, hf⟩ := m_chkE hf
        obtain ⟨o2, ho, hf⟩ := m_calE hf
        have h_o2 := (ro_X0_kingOf ho).trans h_S
        clear ho
        obtain ⟨-, hf⟩ := m_chkE hf
        obtain ⟨-, hf⟩ := m_chkE hf
        obtain ⟨o3, ho, hf⟩ := m_calE hf
        have h_o3 := (ro_X0_attacked ho).trans h_o2
        clear ho
        rcases m_ifE hf with ⟨-, hf⟩ | ⟨-, hf⟩
        ·
          exact (ro_X5_hasSoundMen_115  hf).trans h_o3
        ·
          exact (ro_X5_hasSoundMen_114  hf).trans h_o3
      ·
        exact (ro_X5_hasSoundMen_114  hf).trans h_S
    ·
      exact (ro_X5_hasSoundMen_114  hf).trans h_S
  ·
    obtain ⟨-, hf⟩ := m_chkE hf
    obtain ⟨b4, -, hf⟩ := m_calE hf
    obtain ⟨-, hf⟩ := m_chkE hf
    obtain ⟨-, hf⟩ := m_chkE hf
    obtain ⟨v5, -, hf⟩ := m_bndE hf
    rcases m_ifE hf with ⟨-, hf⟩ | ⟨-, hf⟩
    ·
      exact (ro_X5_hasSoundMen_29 hself6 hf).trans h_S
    ·
      exact (ro_X5_hasSoundMen_29 hself6 hf).trans h_S
theorem ro_X5_hasSoundMen_6   (n : Nat) : ∀ (y0 : Nat) (y1 : Int32) (y2 : Int32) (y3 : Int32) (S : ZS) (o : Int32 × ZS), f_X5_hasSoundMen_6  n y0 y1 y2 y3 S = some o → o.2 = S := by
  induction n with
  | zero => intro y0 y1 y2 y3 S o hf; cases hf
  | succ n ih => intro y0 y1 y2 y3 S o hf; exact ro_X5_hasSoundMen_6s  ih hf
theorem ro_X5_hasSoundMen_0 {o : Int32 × ZS} {x0 : Nat} {S : ZS}  (hf : f_X5_hasSoundMen_0 x0 S = some o) : o.2 = S := by
  have h_S : S = S := rfl
  unfold f_X5_hasSoundMen_0 at hf
  exact (ro_X5_hasSoundMen_6  _ _ _ _ _ _ _ hf).trans h_S
theorem ro_X5_hasSoundMen {o : Int32 × ZS} {x0 : Nat} {S : ZS}  (hf : f_X5_hasSoundMen x0 S = some o) : o.2 = S := by
  have h_S : S = S := rfl
  unfold f_X5_hasSoundMen at hf
  exact (ro_X5_hasSoundMen_0  hf).trans h_S
theorem ro_X5_hasSoundRights_92 {o : Int32 × ZS} {self2 : Nat → Int32 → ZS → Option (Int32 × ZS)} {x0 : Nat} {x1 : Int32} {S : ZS} (hself2 : ∀ (z0 : Nat) (z1 : Int32) (S : ZS) (o : Int32 × ZS), self2 z0 z1 S = some o → o.2 = S) (hf : f_X5_hasSoundRights_92 self2 x0 x1 S = some o) : o.2 = S := by
  have h_S : S = S := rfl
  unfold f_X5_hasSoundRights_92 at hf
  obtain ⟨v1, -, hf⟩ := m_bndE hf
  exact (hself2 _ _ _ _ hf).trans h_S
theorem ro_X5_hasSoundRights_90 {o : Int32 × ZS} {S : ZS}  (hf : f_X5_hasSoundRights_90 S = some o) : o.2 = S := by
  have h_S : S = S := rfl
  unfold f_X5_hasSoundRights_90 at hf
  obtain ⟨-, hf⟩ := m_chkE hf
  cases hf
  exact h_S
theorem ro_X5_hasSoundRights_50 {o : Int32 × ZS} {self2 : Nat → Int32 → ZS → Option (Int32 × ZS)} {x0 : Nat} {x1 : Int32} {x2 : Int32} {x3 : Int32} {t0 : Int32} {S : ZS} (hself2 : ∀ (z0 : Nat) (z1 : Int32) (S : ZS) (o : Int32 × ZS), self2 z0 z1 S = some o → o.2 = S) (hf : f_X5_hasSoundRights_50 self2 x0 x1 x2 x3 t0 S = some o) : o.2 = S := by
  have h_S : S = S := rfl
  unfold f_X5_hasSoundRights_50 at hf
  obtain ⟨-, hf⟩ := m_chkE hf
  obtain ⟨v1, -, hf⟩ := m_bndE hf
  obtain ⟨v2, -, hf⟩ := m_bndE hf
  rcases m_ifE hf with ⟨-, hf⟩ | ⟨-, hf⟩
  ·
    obtain ⟨-, hf⟩ := m_chkE hf
    obtain ⟨b3, -, hf⟩ := m_calE hf
    obtain ⟨-, hf⟩ := m_chkE hf
    obtain ⟨-, hf⟩ := m_chkE hf
    obtain ⟨v4, -, hf⟩ := m_bndE hf
    obtain ⟨v5, -, hf⟩ := m_bndE hf
    rcases m_ifE hf with ⟨-, hf⟩ | ⟨-, hf⟩
    ·
      obtain ⟨-, hf⟩ := m_chkE hf
      obtain ⟨b6, -, hf⟩ := m_calE hf
      obtain ⟨-, hf⟩ := m_chkE hf
      obtain ⟨-, hf⟩ := m_chkE hf
      obtain ⟨v7, -, hf⟩ := m_bndE hf
      obtain ⟨v8, -, hf⟩ := m_bndE hf
      rcases m_ifE hf with ⟨-, hf⟩ | ⟨-, hf⟩
      ·
        exact (ro_X5_hasSoundRights_92 hself2 hf).trans h_S
      ·
        exact (ro_X5_hasSoundRights_90  hf).trans h_S
    ·
      exact (ro_X5_hasSoundRights_90  hf).trans h_S
  ·
    exact (ro_X5_hasSoundRights_92 hself2 hf).trans h_S
theorem ro_X5_hasSoundRights_34 {o : Int32 × ZS} {self2 : Nat → Int32 → ZS → Option (Int32 × ZS)} {x0 : Nat} {x1 : Int32} {x2 : Int32} {t0 : Int32} {S : ZS} (hself2 : ∀ (z0 : Nat) (z1 : Int32) (S : ZS) (o : Int32 × ZS), self2 z0 z1 S = some o → o.2 = S) (hf : f_X5_hasSoundRights_34 self2 x0 x1 x2 t0 S = some o) : o.2 = S := by
  have h_S : S = S := rfl
  unfold f_X5_hasSoundRights_34 at hf
  obtain ⟨v1, -, hf⟩ := m_bndE hf
  rcases m_ifE hf with ⟨-, hf⟩ | ⟨-, hf⟩
  ·
    obtain ⟨v3, -, hf⟩ := m_bndE hf
    exact (ro_X5_hasSoundRights_50 hself2 hf).trans h_S
  ·
    obtain ⟨v2, -, hf⟩ := m_bndE hf
    exact (ro_X5_hasSoundRights_50 hself2 hf).trans h_S
theorem ro_X5_hasSoundRights_22 {o : Int32 × ZS} {self2 : Nat → Int32 → ZS → Option (Int32 × ZS)} {x0 : Nat} {x1 : Int32} {t0 : Int32} {S : ZS} (hself2 : ∀ (z0 : Nat) (z1 : Int32) (S : ZS) (o : Int32 × ZS), self2 z0 z1 S = some o → o.2 = S) (hf : f_X5_hasSoundRights_22 self2 x0 x1 t0 S = some o) : o.2 = S := by
  have h_S : S = S := rfl
  unfold f_X5_hasSoundRights_22 at hf
  rcases m_ifE hf with ⟨-, hf⟩ | ⟨-, hf⟩
  ·
    exact (ro_X5_hasSoundRights_34 hself2 hf).trans h_S
  ·
    exact (ro_X5_hasSoundRights_34 hself2 hf).trans h_S
theorem ro_X5_hasSoundRights_2s {o : Int32 × ZS} {self2 : Nat → Int32 → ZS → Option (Int32 × ZS)} {x0 : Nat} {x1 : Int32} {S : ZS} (hself2 : ∀ (z0 : Nat) (z1 : Int32) (S : ZS) (o : Int32 × ZS), self2 z0 z1 S = some o → o.2 = S) (hf : f_X5_hasSoundRights_2s self2 x0 x1 S = some o) : o.2 = S := by
  have h_S : S = S := rfl
  unfold f_X5_hasSoundRights_2s at hf
  obtain ⟨-, hf⟩ := m_chkE hf
  obtain ⟨o1, ho, hf⟩ := m_calE hf
  have h_o1 := (ro_J0_length_8abf5 ho).trans h_S
  clear ho
  rcases m_ifE hf with ⟨-, hf⟩ | ⟨-, hf⟩
  ·
    obtain ⟨-, hf⟩ := m_chkE hf
    cases hf
    exact h_o1
  ·
    rcases m_ifE hf with ⟨-, hf⟩ | ⟨-, hf⟩
    ·
      exact (ro_X5_hasSoundRights_22 hself2 hf).trans h_o1
    ·
      exact (ro_X5_hasSoundRights_22 hself2 hf).trans h_o1
theorem ro_X5_hasSoundRights_2   (n : Nat) : ∀ (y0 : Nat) (y1 : Int32) (S : ZS) (o : Int32 × ZS), f_X5_hasSoundRights_2  n y0 y1 S = some o → o.2 = S := by
  induction n with
  | zero => intro y0 y1 S o hf; cases hf
  | succ n ih => intro y0 y1 S o hf; exact ro_X5_hasSoundRights_2s  ih hf
theorem ro_X5_hasSoundRights_0 {o : Int32 × ZS} {x0 : Nat} {S : ZS}  (hf : f_X5_hasSoundRights_0 x0 S = some o) : o.2 = S := by
  have h_S : S = S := rfl
  unfold f_X5_hasSoundRights_0 at hf
  exact (ro_X5_hasSoundRights_2  _ _ _ _ _ hf).trans h_S
theorem ro_X5_hasSoundRights {o : Int32 × ZS} {x0 : Nat} {S : ZS}  (hf : f_X5_hasSoundRights x0 S = some o) : o.2 = S := by
  have h_S : S = S := rfl
  unfold f_X5_hasSoundRights at hf
  exact (ro_X5_hasSoundRights_0  hf).trans h_S
theorem ro_X5_hasSoundPassed_49 {o : Int32 × ZS} {S : ZS}  (hf : f_X5_hasSoundPassed_49 S = some o) : o.2 = S := by
  have h_S : S = S := rfl
  unfold f_X5_hasSoundPassed_49 at hf
  obtain ⟨-, hf⟩ := m_chkE hf
  cases hf
  exact h_S
theorem ro_X5_hasSoundPassed_113 {o : Int32 × ZS} {t0 : Int32} {S : ZS}  (hf : f_X5_hasSoundPassed_113 t0 S = some o) : o.2 = S := by
  have h_S : S = S := rfl
  unfold f_X5_hasSoundPassed_113 at hf
  obtain ⟨-, hf⟩ := m_chkE hf
  cases hf
  exact h_S
theorem ro_X5_hasSoundPassed_112 {o : Int32 × ZS} {S : ZS}  (hf : f_X5_hasSoundPassed_112 S = some o) : o.2 = S := by
  have h_S : S = S := rfl
  unfold f_X5_hasSoundPassed_112 at hf
  exact (ro_X5_hasSoundPassed_113  hf).trans h_S
theorem ro_X5_hasSoundPassed_62 {o : Int32 × ZS} {x0 : Nat} {x1 : Int32} {t0 : Int32} {S : ZS}  (hf : f_X5_hasSoundPassed_62 x0 x1 t0 S = some o) : o.2 = S := by
  have h_S : S = S := rfl
  unfold f_X5_hasSoundPassed_62 at hf
  obtain ⟨-, hf⟩ := m_chkE hf
  obtain ⟨b1, -, hf⟩ := m_calE hf
  obtain ⟨v2, -, hf⟩ := m_bndE hf
  obtain ⟨-, hf⟩ := m_chkE hf
  obtain ⟨-, hf⟩ := m_chkE hf
  obtain ⟨v3, -, hf⟩ := m_bndE hf
  obtain ⟨-, hf⟩ := m_chkE hf
  obtain ⟨v4, -, hf⟩ := m_bndE hf
  obtain ⟨v5, -, hf⟩ := m_bndE hf
  obtain ⟨v6, -, hf⟩ := m_bndE hf
  rcases m_ifE hf with ⟨-, hf⟩ | ⟨-, hf⟩
  ·
    obtain ⟨-, hf⟩ := m_chkE hf
    obtain ⟨b7, -, hf⟩ := m_calE hf
    obtain ⟨v8, -, hf⟩ := m_bndE hf
    obtain ⟨-, hf⟩ := m_chkE hf
    obtain ⟨-, hf⟩ := m_chkE hf
    obtain ⟨v9, -, hf⟩ := m_bndE hf
    rcases m_ifE hf with ⟨-, hf⟩ | ⟨-, hf⟩
    ·
      obtain ⟨-, hf⟩ := m_chkE hf
      obtain ⟨-, hf⟩ := m_chkE hf
      obtain ⟨o10, ho, hf⟩ := m_calE hf
      have h_o10 := (ro_X0_pawnAttacks ho).trans h_S
      clear ho
      rcases m_ifE hf with ⟨-, hf⟩ | ⟨-, hf⟩
      ·
        exact (ro_X5_hasSoundPassed_112  hf).trans h_o10
      ·
        exact (ro_X5_hasSoundPassed_113  hf).trans h_o10
    ·
      exact (ro_X5_hasSoundPassed_112  hf).trans h_S
  ·
    exact (ro_X5_hasSoundPassed_112  hf).trans h_S
theorem ro_X5_hasSoundPassed_37 {o : Int32 × ZS} {x0 : Nat} {x1 : Int32} {x2 : Int32} {t0 : Int32} {t1 : Int32} {S : ZS}  (hf : f_X5_hasSoundPassed_37 x0 x1 x2 t0 t1 S = some o) : o.2 = S := by
  have h_S : S = S := rfl
  unfold f_X5_hasSoundPassed_37 at hf
  rcases m_ifE hf with ⟨-, hf⟩ | ⟨-, hf⟩
  ·
    obtain ⟨-, hf⟩ := m_chkE hf
    obtain ⟨b1, -, hf⟩ := m_calE hf
    obtain ⟨-, hf⟩ := m_chkE hf
    obtain ⟨-, hf⟩ := m_chkE hf
    obtain ⟨v2, -, hf⟩ := m_bndE hf
    rcases m_ifE hf with ⟨-, hf⟩ | ⟨-, hf⟩
    ·
      rcases m_ifE hf with ⟨-, hf⟩ | ⟨-, hf⟩
      ·
        exact (ro_X5_hasSoundPassed_62  hf).trans h_S
      ·
        exact (ro_X5_hasSoundPassed_62  hf).trans h_S
    ·
      exact (ro_X5_hasSoundPassed_49  hf).trans h_S
  ·
    exact (ro_X5_hasSoundPassed_49  hf).trans h_S
theorem ro_X5_hasSoundPassed_24 {o : Int32 × ZS} {x0 : Nat} {x1 : Int32} {t0 : Int32} {S : ZS}  (hf : f_X5_hasSoundPassed_24 x0 x1 t0 S = some o) : o.2 = S := by
  have h_S : S = S := rfl
  unfold f_X5_hasSoundPassed_24 at hf
  obtain ⟨v1, -, hf⟩ := m_bndE hf
  rcases m_ifE hf with ⟨-, hf⟩ | ⟨-, hf⟩
  ·
    exact (ro_X5_hasSoundPassed_37  hf).trans h_S
  ·
    exact (ro_X5_hasSoundPassed_37  hf).trans h_S
theorem ro_X5_hasSoundPassed_0 {o : Int32 × ZS} {x0 : Nat} {S : ZS}  (hf : f_X5_hasSoundPassed_0 x0 S = some o) : o.2 = S := by
  have h_S : S = S := rfl
  unfold f_X5_hasSoundPassed_0 at hf
  obtain ⟨-, hf⟩ := m_chkE hf
  rcases m_ifE hf with ⟨-, hf⟩ | ⟨-, hf⟩
  ·
    obtain ⟨-, hf⟩ := m_chkE hf
    cases hf
    exact h_S
  ·
    obtain ⟨-, hf⟩ := m_chkE hf
    rcases m_ifE hf with ⟨-, hf⟩ | ⟨-, hf⟩
    ·
      exact (ro_X5_hasSoundPassed_24  hf).trans h_S
    ·
      exact (ro_X5_hasSoundPassed_24  hf).trans h_S
theorem ro_X5_hasSoundPassed {o : Int32 × ZS} {x0 : Nat} {S : ZS}  (hf : f_X5_hasSoundPassed x0 S = some o) : o.2 = S := by
  have h_S : S = S := rfl
  unfold f_X5_hasSoundPassed at hf
  exact (ro_X5_hasSoundPassed_0  hf).trans h_S
theorem ro_X6_indexOf_30 {o : Int32 × ZS} {x3 : Int32} {S : ZS}  (hf : f_X6_indexOf_30 x3 S = some o) : o.2 = S := by
  have h_S : S = S := rfl
  unfold f_X6_indexOf_30 at hf
  cases hf
  exact h_S
theorem ro_X6_indexOf_6s {o : Int32 × ZS} {self6 : Nat → Int32 → Int32 → ZS → Option (Int32 × ZS)} {x0 : Nat} {x1 : Int32} {x3 : Int32} {S : ZS} (hself6 : ∀ (z0 : Nat) (z1 : Int32) (z2 : Int32) (S : ZS) (o : Int32 × ZS), self6 z0 z1 z2 S = some o → o.2 = S) (hf : f_X6_indexOf_6s self6 x0 x1 x3 S = some o) : o.2 = S := by
  have h_S : S = S := rfl
  unfold f_X6_indexOf_6s at hf
  obtain ⟨-, hf⟩ := m_chkE hf
  rcases m_ifE hf with ⟨-, hf⟩ | ⟨-, hf⟩
  ·
    exact (ro_X6_indexOf_30  hf).trans h_S
  ·
    obtain ⟨-, hf⟩ := m_chkE hf
    obtain ⟨b1, -, hf⟩ := m_calE hf
    obtain ⟨-, hf⟩ := m_chkE hf
    obtain ⟨-, hf⟩ := m_chkE hf
    obtain ⟨v2, -, hf⟩ := m_bndE hf
    rcases m_ifE hf with ⟨-, hf⟩ | ⟨-, hf⟩
    ·
      exact (ro_X6_indexOf_30  hf).trans h_S
    ·
      obtain ⟨v3, -, hf⟩ := m_bndE hf
      exact (hself6 _ _ _ _ _ hf).trans h_S
theorem ro_X6_indexOf_6   (n : Nat) : ∀ (y0 : Nat) (y1 : Int32) (y2 : Int32) (S : ZS) (o : Int32 × ZS), f_X6_indexOf_6  n y0 y1 y2 S = some o → o.2 = S := by
  induction n with
  | zero => intro y0 y1 y2 S o hf; cases hf
  | succ n ih => intro y0 y1 y2 S o hf; exact ro_X6_indexOf_6s  ih hf
theorem ro_X6_indexOf_0 {o : Int32 × ZS} {x0 : Nat} {x1 : Int32} {x2 : Int32} {S : ZS}  (hf : f_X6_indexOf_0 x0 x1 x2 S = some o) : o.2 = S := by
  have h_S : S = S := rfl
  unfold f_X6_indexOf_0 at hf
  obtain ⟨v1, -, hf⟩ := m_bndE hf
  exact (ro_X6_indexOf_6  _ _ _ _ _ _ hf).trans h_S
theorem ro_X6_indexOf {o : Int32 × ZS} {x0 : Nat} {x1 : Int32} {x2 : Int32} {S : ZS}  (hf : f_X6_indexOf x0 x1 x2 S = some o) : o.2 = S := by
  have h_S : S = S := rfl
  unfold f_X6_indexOf at hf
  exact (ro_X6_indexOf_0  hf).trans h_S
theorem ro_X2_resultHere_2s {o : Int32 × ZS} {self2 : Nat → Int32 → ZS → Option (Int32 × ZS)} {x0 : Nat} {x1 : Int32} {S : ZS} (hself2 : ∀ (z0 : Nat) (z1 : Int32) (S : ZS) (o : Int32 × ZS), self2 z0 z1 S = some o → o.2 = S) (hf : f_X2_resultHere_2s self2 x0 x1 S = some o) : o.2 = S := by
  have h_S : S = S := rfl
  unfold f_X2_resultHere_2s at hf
  rcases m_ifE hf with ⟨-, hf⟩ | ⟨-, hf⟩
  ·
    cases hf
    exact h_S
  ·
    obtain ⟨-, hf⟩ := m_chkE hf
    obtain ⟨b1, -, hf⟩ := m_calE hf
    obtain ⟨o2, ho, hf⟩ := m_calE hf
    have h_o2 := (ro_X11_resultSign ho).trans h_S
    clear ho
    obtain ⟨-, hf⟩ := m_chkE hf
    obtain ⟨-, hf⟩ := m_chkE hf
    obtain ⟨o3, ho, hf⟩ := m_calE hf
    have h_o3 := (ro_X6_holds ho).trans h_o2
    clear ho
    rcases m_ifE hf with ⟨-, hf⟩ | ⟨-, hf⟩
    ·
      obtain ⟨v4, -, hf⟩ := m_bndE hf
      exact (hself2 _ _ _ _ hf).trans h_o3
    ·
      cases hf
      exact h_o3
theorem ro_X2_resultHere_2   (n : Nat) : ∀ (y0 : Nat) (y1 : Int32) (S : ZS) (o : Int32 × ZS), f_X2_resultHere_2  n y0 y1 S = some o → o.2 = S := by
  induction n with
  | zero => intro y0 y1 S o hf; cases hf
  | succ n ih => intro y0 y1 S o hf; exact ro_X2_resultHere_2s  ih hf
theorem ro_X2_resultHere_0 {o : Int32 × ZS} {x0 : Nat} {S : ZS}  (hf : f_X2_resultHere_0 x0 S = some o) : o.2 = S := by
  have h_S : S = S := rfl
  unfold f_X2_resultHere_0 at hf
  exact (ro_X2_resultHere_2  _ _ _ _ _ hf).trans h_S
theorem ro_X2_resultHere {o : Int32 × ZS} {x0 : Nat} {S : ZS}  (hf : f_X2_resultHere x0 S = some o) : o.2 = S := by
  have h_S : S = S := rfl
  unfold f_X2_resultHere at hf
  exact (ro_X2_resultHere_0  hf).trans h_S
theorem ro_X2_isSign_43 {o : Int32 × ZS} {t0 : Int32} {S : ZS}  (hf : f_X2_isSign_43 t0 S = some o) : o.2 = S := by
  have h_S : S = S := rfl
  unfold f_X2_isSign_43 at hf
  obtain ⟨-, hf⟩ := m_chkE hf
  cases hf
  exact h_S
theorem ro_X2_isSign_38 {o : Int32 × ZS} {S : ZS}  (hf : f_X2_isSign_38 S = some o) : o.2 = S := by
  have h_S : S = S := rfl
  unfold f_X2_isSign_38 at hf
  exact (ro_X2_isSign_43  hf).trans h_S
theorem ro_X2_isSign_0 {o : Int32 × ZS} {x0 : Int32} {S : ZS}  (hf : f_X2_isSign_0 x0 S = some o) : o.2 = S := by
  have h_S : S = S := rfl
  unfold f_X2_isSign_0 at hf
  obtain ⟨o1, ho, hf⟩ := m_calE hf
  have h_o1 := (ro_X11_isLetter ho).trans h_S
  clear ho
  rcases m_ifE hf with ⟨-, hf⟩ | ⟨-, hf⟩
  ·
    obtain ⟨o2, ho, hf⟩ := m_calE hf
    have h_o2 := (ro_X11_isDigit ho).trans h_o1
    clear ho
    rcases m_ifE hf with ⟨-, hf⟩ | ⟨-, hf⟩
    ·
      rcases m_ifE hf with ⟨-, hf⟩ | ⟨-, hf⟩
      ·
        exact (ro_X2_isSign_38  hf).trans h_o2
      ·
        rcases m_ifE hf with ⟨-, hf⟩ | ⟨-, hf⟩
        ·
          exact (ro_X2_isSign_38  hf).trans h_o2
        ·
          rcases m_ifE hf with ⟨-, hf⟩ | ⟨-, hf⟩
          ·
            exact (ro_X2_isSign_38  hf).trans h_o2
          ·
            rcases m_ifE hf with ⟨-, hf⟩ | ⟨-, hf⟩
            ·
              exact (ro_X2_isSign_38  hf).trans h_o2
            ·
              exact (ro_X2_isSign_43  hf).trans h_o2
    ·
      exact (ro_X2_isSign_38  hf).trans h_o2
  ·
    exact (ro_X2_isSign_38  hf).trans h_o1
theorem ro_X2_isSign {o : Int32 × ZS} {x0 : Int32} {S : ZS}  (hf : f_X2_isSign x0 S = some o) : o.2 = S := by
  have h_S : S = S := rfl
  unfold f_X2_isSign at hf
  exact (ro_X2_isSign_0  hf).trans h_S
theorem ro_X11_kindOf_0 {o : Int32 × ZS} {x0 : Int32} {S : ZS}  (hf : f_X11_kindOf_0 x0 S = some o) : o.2 = S := by
  have h_S : S = S := rfl
  unfold f_X11_kindOf_0 at hf
  obtain ⟨-, hf⟩ := m_chkE hf
  obtain ⟨o1, ho, hf⟩ := m_calE hf
  have h_o1 := (ro_J0_indexOf_0f7a4 ho).trans h_S
  clear ho
  obtain ⟨v2, -, hf⟩ := m_bndE hf
  cases hf
  exact h_o1
theorem ro_X11_kindOf {o : Int32 × ZS} {x0 : Int32} {S : ZS}  (hf : f_X11_kindOf x0 S = some o) : o.2 = S := by
  have h_S : S = S := rfl
  unfold f_X11_kindOf at hf
  exact (ro_X11_kindOf_0  hf).trans h_S
theorem ro_X8_fitsFrom_70 {o : Int32 × ZS} {S : ZS}  (hf : f_X8_fitsFrom_70 S = some o) : o.2 = S := by
  have h_S : S = S := rfl
  unfold f_X8_fitsFrom_70 at hf
  obtain ⟨-, hf⟩ := m_chkE hf
  cases hf
  exact h_S
theorem ro_X8_fitsFrom_158 {o : Int32 × ZS} {t0 : Int32} {S : ZS}  (hf : f_X8_fitsFrom_158 t0 S = some o) : o.2 = S := by
  have h_S : S = S := rfl
  unfold f_X8_fitsFrom_158 at hf
  obtain ⟨-, hf⟩ := m_chkE hf
  cases hf
  exact h_S
theorem ro_X8_fitsFrom_157 {o : Int32 × ZS} {S : ZS}  (hf : f_X8_fitsFrom_157 S = some o) : o.2 = S := by
  have h_S : S = S := rfl
  unfold f_X8_fitsFrom_157 at hf
  exact (ro_X8_fitsFrom_158  hf).trans h_S
theorem ro_X8_fitsFrom_150 {o : Int32 × ZS} {t0 : Int32} {t1 : Int32} {S : ZS}  (hf : f_X8_fitsFrom_150 t0 t1 S = some o) : o.2 = S := by
  have h_S : S = S := rfl
  unfold f_X8_fitsFrom_150 at hf
  rcases m_ifE hf with ⟨-, hf⟩ | ⟨-, hf⟩
  ·
    exact (ro_X8_fitsFrom_158  hf).trans h_S
  ·
    exact (ro_X8_fitsFrom_157  hf).trans h_S
theorem ro_X8_fitsFrom_129 {o : Int32 × ZS} {x0 : Nat} {x1 : Nat} {x2 : Int32} {S : ZS}  (hf : f_X8_fitsFrom_129 x0 x1 x2 S = some o) : o.2 = S := by
  have h_S : S = S := rfl
  unfold f_X8_fitsFrom_129 at hf
  obtain ⟨-, hf⟩ := m_chkE hf
  obtain ⟨-, hf⟩ := m_chkE hf
  obtain ⟨o1, ho, hf⟩ := m_calE hf
  have h_o1 := (ro_X0_becomesAnother ho).trans h_S
  clear ho
  obtain ⟨-, hf⟩ := m_chkE hf
  rcases m_ifE hf with ⟨-, hf⟩ | ⟨-, hf⟩
  ·
    exact (ro_X8_fitsFrom_150  hf).trans h_o1
  ·
    exact (ro_X8_fitsFrom_150  hf).trans h_o1
theorem ro_X8_fitsFrom_126 {o : Int32 × ZS} {x0 : Nat} {x1 : Nat} {x2 : Int32} {t0 : Int32} {t1 : Int32} {S : ZS}  (hf : f_X8_fitsFrom_126 x0 x1 x2 t0 t1 S = some o) : o.2 = S := by
  have h_S : S = S := rfl
  unfold f_X8_fitsFrom_126 at hf
  rcases m_ifE hf with ⟨-, hf⟩ | ⟨-, hf⟩
  ·
    exact (ro_X8_fitsFrom_129  hf).trans h_S
  ·
    exact (ro_X8_fitsFrom_157  hf).trans h_S
theorem ro_X8_fitsFrom_104 {o : Int32 × ZS} {x0 : Nat} {x1 : Nat} {x2 : Int32} {x3 : Int32} {S : ZS}  (hf : f_X8_fitsFrom_104 x0 x1 x2 x3 S = some o) : o.2 = S := by
  have h_S : S = S := rfl
  unfold f_X8_fitsFrom_104 at hf
  obtain ⟨-, hf⟩ := m_chkE hf
  rcases m_ifE hf with ⟨-, hf⟩ | ⟨-, hf⟩
  ·
    exact (ro_X8_fitsFrom_129  hf).trans h_S
  ·
    obtain ⟨-, hf⟩ := m_chkE hf
    rcases m_ifE hf with ⟨-, hf⟩ | ⟨-, hf⟩
    ·
      exact (ro_X8_fitsFrom_126  hf).trans h_S
    ·
      exact (ro_X8_fitsFrom_126  hf).trans h_S
theorem ro_X8_fitsFrom_72 {o : Int32 × ZS} {x0 : Nat} {x1 : Nat} {x2 : Int32} {S : ZS}  (hf : f_X8_fitsFrom_72 x0 x1 x2 S = some o) : o.2 = S := by
  have h_S : S = S := rfl
  unfold f_X8_fitsFrom_72 at hf
  obtain ⟨-, hf⟩ := m_chkE hf
  obtain ⟨-, hf⟩ := m_chkE hf
  obtain ⟨o1, ho, hf⟩ := m_calE hf
  have h_o1 := (ro_X0_takes ho).trans h_S
  clear ho
  obtain ⟨-, hf⟩ := m_chkE hf
  rcases m_ifE hf with ⟨-, hf⟩ | ⟨-, hf⟩
  ·
    rcases m_ifE hf with ⟨-, hf⟩ | ⟨-, hf⟩
    ·
      exact (ro_X8_fitsFrom_104  hf).trans h_o1
    ·
      obtain ⟨-, hf⟩ := m_chkE hf
      rcases m_ifE hf with ⟨-, hf⟩ | ⟨-, hf⟩
      ·
        obtain ⟨-, hf⟩ := m_chkE hf
        cases hf
        exact h_o1
      ·
        exact (ro_X8_fitsFrom_104  hf).trans h_o1
  ·
    exact (ro_X8_fitsFrom_104  hf).trans h_o1
theorem ro_X8_fitsFrom_52 {o : Int32 × ZS} {x0 : Nat} {x1 : Nat} {x2 : Int32} {S : ZS}  (hf : f_X8_fitsFrom_52 x0 x1 x2 S = some o) : o.2 = S := by
  have h_S : S = S := rfl
  unfold f_X8_fitsFrom_52 at hf
  obtain ⟨-, hf⟩ := m_chkE hf
  rcases m_ifE hf with ⟨-, hf⟩ | ⟨-, hf⟩
  ·
    exact (ro_X8_fitsFrom_72  hf).trans h_S
  ·
    obtain ⟨-, hf⟩ := m_chkE hf
    obtain ⟨v1, -, hf⟩ := m_bndE hf
    rcases m_ifE hf with ⟨-, hf⟩ | ⟨-, hf⟩
    ·
      exact (ro_X8_fitsFrom_72  hf).trans h_S
    ·
      exact (ro_X8_fitsFrom_70  hf).trans h_S
theorem ro_X8_fitsFrom_0 {o : Int32 × ZS} {x0 : Nat} {x1 : Nat} {x2 : Int32} {S : ZS}  (hf : f_X8_fitsFrom_0 x0 x1 x2 S = some o) : o.2 = S := by
  have h_S : S = S := rfl
  unfold f_X8_fitsFrom_0 at hf
  obtain ⟨-, hf⟩ := m_chkE hf
  obtain ⟨b1, -, hf⟩ := m_calE hf
  obtain ⟨-, hf⟩ := m_chkE hf
  obtain ⟨-, hf⟩ := m_chkE hf
  obtain ⟨v2, -, hf⟩ := m_bndE hf
  obtain ⟨-, hf⟩ := m_chkE hf
  obtain ⟨-, hf⟩ := m_chkE hf
  obtain ⟨v3, -, hf⟩ := m_bndE hf
  obtain ⟨v4, -, hf⟩ := m_bndE hf
  rcases m_ifE hf with ⟨-, hf⟩ | ⟨-, hf⟩
  ·
    obtain ⟨-, hf⟩ := m_chkE hf
    obtain ⟨-, hf⟩ := m_chkE hf
    obtain ⟨o5, ho, hf⟩ := m_calE hf
    have h_o5 := (ro_X0_castles ho).trans h_S
    clear ho
    rcases m_ifE hf with ⟨-, hf⟩ | ⟨-, hf⟩
    ·
      obtain ⟨-, hf⟩ := m_chkE hf
      rcases m_ifE hf with ⟨-, hf⟩ | ⟨-, hf⟩
      ·
        exact (ro_X8_fitsFrom_52  hf).trans h_o5
      ·
        obtain ⟨-, hf⟩ := m_chkE hf
        obtain ⟨v6, -, hf⟩ := m_bndE hf
        rcases m_ifE hf with ⟨-, hf⟩ | ⟨-, hf⟩
        ·
          exact (ro_X8_fitsFrom_52  hf).trans h_o5
        ·
          exact (ro_X8_fitsFrom_70  hf).trans h_o5
    ·
      exact (ro_X8_fitsFrom_70  hf).trans h_o5
  ·
    exact (ro_X8_fitsFrom_70  hf).trans h_S
theorem ro_X8_fitsFrom {o : Int32 × ZS} {x0 : Nat} {x1 : Nat} {x2 : Int32} {S : ZS}  (hf : f_X8_fitsFrom x0 x1 x2 S = some o) : o.2 = S := by
  have h_S : S = S := rfl
  unfold f_X8_fitsFrom at hf
  exact (ro_X8_fitsFrom_0  hf).trans h_S
theorem ro_X2_shortMark_56 {o : Int32 × ZS} {t0 : Int32} {S : ZS}  (hf : f_X2_shortMark_56 t0 S = some o) : o.2 = S := by
  have h_S : S = S := rfl
  unfold f_X2_shortMark_56 at hf
  cases hf
  exact h_S
theorem ro_X2_shortMark_27 {o : Int32 × ZS} {t0 : Int32} {S : ZS}  (hf : f_X2_shortMark_27 t0 S = some o) : o.2 = S := by
  have h_S : S = S := rfl
  unfold f_X2_shortMark_27 at hf
  cases hf
  exact h_S
theorem ro_X2_shortMark_0 {o : Int32 × ZS} {x0 : Int32} {x1 : Int32} {S : ZS}  (hf : f_X2_shortMark_0 x0 x1 S = some o) : o.2 = S := by
  have h_S : S = S := rfl
  unfold f_X2_shortMark_0 at hf
  rcases m_ifE hf with ⟨-, hf⟩ | ⟨-, hf⟩
  ·
    rcases m_ifE hf with ⟨-, hf⟩ | ⟨-, hf⟩
    ·
      exact (ro_X2_shortMark_27  hf).trans h_S
    ·
      rcases m_ifE hf with ⟨-, hf⟩ | ⟨-, hf⟩
      ·
        exact (ro_X2_shortMark_27  hf).trans h_S
      ·
        exact (ro_X2_shortMark_27  hf).trans h_S
  ·
    rcases m_ifE hf with ⟨-, hf⟩ | ⟨-, hf⟩
    ·
      rcases m_ifE hf with ⟨-, hf⟩ | ⟨-, hf⟩
      ·
        exact (ro_X2_shortMark_56  hf).trans h_S
      ·
        rcases m_ifE hf with ⟨-, hf⟩ | ⟨-, hf⟩
        ·
          exact (ro_X2_shortMark_56  hf).trans h_S
        ·
          exact (ro_X2_shortMark_56  hf).trans h_S
    ·
      cases hf
      exact h_S
theorem ro_X2_shortMark {o : Int32 × ZS} {x0 : Int32} {x1 : Int32} {S : ZS}  (hf : f_X2_shortMark x0 x1 S = some o) : o.2 = S := by
  have h_S : S = S := rfl
  unfold f_X2_shortMark at hf
  exact (ro_X2_shortMark_0  hf).trans h_S
theorem ro_X11_letterOf_25 {o : Int32 × ZS} {t0 : Int32} {S : ZS}  (hf : f_X11_letterOf_25 t0 S = some o) : o.2 = S := by
  have h_S : S = S := rfl
  unfold f_X11_letterOf_25 at hf
  obtain ⟨-, hf⟩ := m_chkE hf
  cases hf
  exact h_S
theorem ro_X11_letterOf_23 {o : Int32 × ZS} {S : ZS}  (hf : f_X11_letterOf_23 S = some o) : o.2 = S := by
  have h_S : S = S := rfl
  unfold f_X11_letterOf_23 at hf
  exact (ro_X11_letterOf_25  hf).trans h_S
theorem ro_X11_letterOf_0 {o : Int32 × ZS} {x0 : Int32} {S : ZS}  (hf : f_X11_letterOf_0 x0 S = some o) : o.2 = S := by
  have h_S : S = S := rfl
  unfold f_X11_letterOf_0 at hf
  rcases m_ifE hf with ⟨-, hf⟩ | ⟨-, hf⟩
  ·
    exact (ro_X11_letterOf_23  hf).trans h_S
  ·
    rcases m_ifE hf with ⟨-, hf⟩ | ⟨-, hf⟩
    ·
      exact (ro_X11_letterOf_23  hf).trans h_S
    ·
      obtain ⟨v1, -, hf⟩ := m_bndE hf
      obtain ⟨-, hf⟩ := m_chkE hf
      obtain ⟨o2, ho, hf⟩ := m_calE hf
      have h_o2 := (ro_J0_charAt_5068e ho).trans h_S
      clear ho
      exact (ro_X11_letterOf_25  hf).trans h_o2
theorem ro_X11_letterOf {o : Int32 × ZS} {x0 : Int32} {S : ZS}  (hf : f_X11_letterOf x0 S = some o) : o.2 = S := by
  have h_S : S = S := rfl
  unfold f_X11_letterOf at hf
  exact (ro_X11_letterOf_0  hf).trans h_S
theorem ro_X11_fileLetter_0 {o : Int32 × ZS} {x0 : Int32} {S : ZS}  (hf : f_X11_fileLetter_0 x0 S = some o) : o.2 = S := by
  have h_S : S = S := rfl
  unfold f_X11_fileLetter_0 at hf
  obtain ⟨v1, -, hf⟩ := m_bndE hf
  obtain ⟨v2, -, hf⟩ := m_bndE hf
  obtain ⟨v3, -, hf⟩ := m_bndE hf
  obtain ⟨-, hf⟩ := m_chkE hf
  cases hf
  exact h_S
theorem ro_X11_fileLetter {o : Int32 × ZS} {x0 : Int32} {S : ZS}  (hf : f_X11_fileLetter x0 S = some o) : o.2 = S := by
  have h_S : S = S := rfl
  unfold f_X11_fileLetter at hf
  exact (ro_X11_fileLetter_0  hf).trans h_S
theorem ro_X11_rankDigit_0 {o : Int32 × ZS} {x0 : Int32} {S : ZS}  (hf : f_X11_rankDigit_0 x0 S = some o) : o.2 = S := by
  have h_S : S = S := rfl
  unfold f_X11_rankDigit_0 at hf
  obtain ⟨v1, -, hf⟩ := m_bndE hf
  obtain ⟨v2, -, hf⟩ := m_bndE hf
  obtain ⟨v3, -, hf⟩ := m_bndE hf
  obtain ⟨-, hf⟩ := m_chkE hf
  cases hf
  exact h_S
theorem ro_X11_rankDigit {o : Int32 × ZS} {x0 : Int32} {S : ZS}  (hf : f_X11_rankDigit x0 S = some o) : o.2 = S := by
  have h_S : S = S := rfl
  unfold f_X11_rankDigit at hf
  exact (ro_X11_rankDigit_0  hf).trans h_S
theorem ro_X4_markAt_0 {o : Int32 × ZS} {x0 : Nat} {x1 : Int32} {S : ZS}  (hf : f_X4_markAt_0 x0 x1 S = some o) : o.2 = S := by
  have h_S : S = S := rfl
  unfold f_X4_markAt_0 at hf
  obtain ⟨-, hf⟩ := m_chkE hf
  obtain ⟨v1, -, hf⟩ := m_bndE hf
  obtain ⟨v2, -, hf⟩ := m_bndE hf
  obtain ⟨v3, -, hf⟩ := m_bndE hf
  cases hf
  exact h_S
theorem ro_X4_markAt {o : Int32 × ZS} {x0 : Nat} {x1 : Int32} {S : ZS}  (hf : f_X4_markAt x0 x1 S = some o) : o.2 = S := by
  have h_S : S = S := rfl
  unfold f_X4_markAt at hf
  exact (ro_X4_markAt_0  hf).trans h_S
theorem ro_X11_byteOf_0 {o : Int32 × ZS} {x0 : Int64} {x2 : Int32} {S : ZS}  (hf : f_X11_byteOf_0 x0 x2 S = some o) : o.2 = S := by
  have h_S : S = S := rfl
  unfold f_X11_byteOf_0 at hf
  obtain ⟨v1, -, hf⟩ := m_bndE hf
  obtain ⟨v2, -, hf⟩ := m_bndE hf
  obtain ⟨v3, -, hf⟩ := m_bndE hf
  obtain ⟨v4, -, hf⟩ := m_bndE hf
  obtain ⟨v5, -, hf⟩ := m_bndE hf
  obtain ⟨-, hf⟩ := m_chkE hf
  cases hf
  exact h_S
theorem ro_X11_byteOf {o : Int32 × ZS} {x0 : Int64} {x2 : Int32} {S : ZS}  (hf : f_X11_byteOf x0 x2 S = some o) : o.2 = S := by
  have h_S : S = S := rfl
  unfold f_X11_byteOf at hf
  exact (ro_X11_byteOf_0  hf).trans h_S
theorem ro_X11_out_0 {o : Int32 × ZS} {x0 : Nat} {x1 : Int32} {S : ZS}  (hf : f_X11_out_0 x0 x1 S = some o) : o.2 = S := by
  have h_S : S = S := rfl
  unfold f_X11_out_0 at hf
  obtain ⟨-, hf⟩ := m_chkE hf
  obtain ⟨b1, -, hf⟩ := m_calE hf
  obtain ⟨-, hf⟩ := m_chkE hf
  obtain ⟨o2, ho, hf⟩ := m_calE hf
  have h_o2 := (ro_X6_at ho).trans h_S
  clear ho
  cases hf
  exact h_o2
theorem ro_X11_out {o : Int32 × ZS} {x0 : Nat} {x1 : Int32} {S : ZS}  (hf : f_X11_out x0 x1 S = some o) : o.2 = S := by
  have h_S : S = S := rfl
  unfold f_X11_out at hf
  exact (ro_X11_out_0  hf).trans h_S
theorem ro_X11_nodes_0 {o : Int32 × ZS} {x0 : Nat} {S : ZS}  (hf : f_X11_nodes_0 x0 S = some o) : o.2 = S := by
  have h_S : S = S := rfl
  unfold f_X11_nodes_0 at hf
  obtain ⟨-, hf⟩ := m_chkE hf
  obtain ⟨b1, -, hf⟩ := m_calE hf
  obtain ⟨-, hf⟩ := m_chkE hf
  cases hf
  exact h_S
theorem ro_X11_nodes {o : Int32 × ZS} {x0 : Nat} {S : ZS}  (hf : f_X11_nodes x0 S = some o) : o.2 = S := by
  have h_S : S = S := rfl
  unfold f_X11_nodes at hf
  exact (ro_X11_nodes_0  hf).trans h_S
theorem ro_X11_here_0 {o : Int32 × ZS} {x0 : Nat} {S : ZS}  (hf : f_X11_here_0 x0 S = some o) : o.2 = S := by
  have h_S : S = S := rfl
  unfold f_X11_here_0 at hf
  obtain ⟨-, hf⟩ := m_chkE hf
  cases hf
  exact h_S
theorem ro_X11_here {o : Int32 × ZS} {x0 : Nat} {S : ZS}  (hf : f_X11_here x0 S = some o) : o.2 = S := by
  have h_S : S = S := rfl
  unfold f_X11_here at hf
  exact (ro_X11_here_0  hf).trans h_S
theorem ro_X11_result_0 {o : Int32 × ZS} {x0 : Nat} {S : ZS}  (hf : f_X11_result_0 x0 S = some o) : o.2 = S := by
  have h_S : S = S := rfl
  unfold f_X11_result_0 at hf
  obtain ⟨-, hf⟩ := m_chkE hf
  obtain ⟨b1, -, hf⟩ := m_calE hf
  obtain ⟨-, hf⟩ := m_chkE hf
  cases hf
  exact h_S
theorem ro_X11_result {o : Int32 × ZS} {x0 : Nat} {S : ZS}  (hf : f_X11_result x0 S = some o) : o.2 = S := by
  have h_S : S = S := rfl
  unfold f_X11_result at hf
  exact (ro_X11_result_0  hf).trans h_S
theorem ro_X11_tags_0 {o : Int32 × ZS} {x0 : Nat} {S : ZS}  (hf : f_X11_tags_0 x0 S = some o) : o.2 = S := by
  have h_S : S = S := rfl
  unfold f_X11_tags_0 at hf
  obtain ⟨-, hf⟩ := m_chkE hf
  obtain ⟨b1, -, hf⟩ := m_calE hf
  obtain ⟨-, hf⟩ := m_chkE hf
  cases hf
  exact h_S
theorem ro_X11_tags {o : Int32 × ZS} {x0 : Nat} {S : ZS}  (hf : f_X11_tags x0 S = some o) : o.2 = S := by
  have h_S : S = S := rfl
  unfold f_X11_tags at hf
  exact (ro_X11_tags_0  hf).trans h_S
theorem rro_kind {o : Int32 × MS} {x0 : Int32} {I : Nat → Int32} {A : Nat → Nat → Int32} (hf : f_kind x0 I A = some o) : o.2 = (I, A) := ms_ext (fw_kind hf)
theorem rro_isTaking {o : Int32 × MS} {x1 : Int32} {I : Nat → Int32} {A : Nat → Nat → Int32} (hf : f_isTaking x1 I A = some o) : o.2 = (I, A) := ms_ext (fw_isTaking hf)
theorem rro_step {o : Int32 × MS} {x0 : Int32} {x1 : Int32} {x2 : Int32} {I : Nat → Int32} {A : Nat → Nat → Int32} (hf : f_step x0 x1 x2 I A = some o) : o.2 = (I, A) := ms_ext (fw_step hf)
theorem rro_stands {o : Int32 × MS} {x1 : Int32} {x2 : Int32} {I : Nat → Int32} {A : Nat → Nat → Int32} (hf : f_stands x1 x2 I A = some o) : o.2 = (I, A) := ms_ext (fw_stands hf)
theorem rro_sideOf {o : Int32 × MS} {x0 : Int32} {I : Nat → Int32} {A : Nat → Nat → Int32} (hf : f_sideOf x0 I A = some o) : o.2 = (I, A) := ms_ext (fw_sideOf hf)
theorem rro_pawnGoes {o : Int32 × MS} {x1 : Int32} {x2 : Int32} {I : Nat → Int32} {A : Nat → Nat → Int32} (hf : f_pawnGoes x1 x2 I A = some o) : o.2 = (I, A) := ms_ext (fw_pawnGoes hf)
theorem rro_isClear {o : Int32 × MS} {x1 : Int32} {x2 : Int32} {I : Nat → Int32} {A : Nat → Nat → Int32} (hf : f_isClear x1 x2 I A = some o) : o.2 = (I, A) := ms_ext (fw_isClear hf)
theorem rro_met {o : Int32 × MS} {x1 : Int32} {x2 : Int32} {x3 : Int32} {I : Nat → Int32} {A : Nat → Nat → Int32} (hf : f_met x1 x2 x3 I A = some o) : o.2 = (I, A) := ms_ext (fw_met hf)
theorem rro_isAttacked {o : Int32 × MS} {x1 : Int32} {x2 : Int32} {I : Nat → Int32} {A : Nat → Nat → Int32} (hf : f_isAttacked x1 x2 I A = some o) : o.2 = (I, A) := ms_ext (fw_isAttacked hf)
theorem rro_mayCastle {o : Int32 × MS} {x1 : Int32} {I : Nat → Int32} {A : Nat → Nat → Int32} (hf : f_mayCastle x1 I A = some o) : o.2 = (I, A) := ms_ext (fw_mayCastle hf)
theorem rro_goes {o : Int32 × MS} {x1 : Int32} {x2 : Int32} {I : Nat → Int32} {A : Nat → Nat → Int32} (hf : f_goes x1 x2 I A = some o) : o.2 = (I, A) := ms_ext (fw_goes hf)
theorem rro_kingOf {o : Int32 × MS} {x1 : Int32} {I : Nat → Int32} {A : Nat → Nat → Int32} (hf : f_kingOf x1 I A = some o) : o.2 = (I, A) := ms_ext (fw_kingOf hf)
theorem rro_isInCheck {o : Int32 × MS} {x1 : Int32} {I : Nat → Int32} {A : Nat → Nat → Int32} (hf : f_isInCheck x1 I A = some o) : o.2 = (I, A) := ms_ext (fw_isInCheck hf)
theorem rro_thrown {o : Int32 × MS}  {I : Nat → Int32} {A : Nat → Nat → Int32} (hf : f_thrown  I A = some o) : o.2 = (I, A) := ms_ext (fw_thrown hf)
theorem rro_childWith {o : Int32 × MS} {x1 : Int32} {x2 : Int32} {x3 : Int32} {I : Nat → Int32} {A : Nat → Nat → Int32} (hf : f_childWith x1 x2 x3 I A = some o) : o.2 = (I, A) := ms_ext (fw_childWith hf)
theorem rro_isFirst {o : Int32 × MS} {x1 : Int32} {x2 : Int32} {I : Nat → Int32} {A : Nat → Nat → Int32} (hf : f_isFirst x1 x2 I A = some o) : o.2 = (I, A) := ms_ext (fw_isFirst hf)
theorem rro_deepOf {o : Int32 × MS} {x1 : Int32} {x2 : Int32} {I : Nat → Int32} {A : Nat → Nat → Int32} (hf : f_deepOf x1 x2 I A = some o) : o.2 = (I, A) := ms_ext (fw_deepOf hf)
theorem rro_letter {o : Int32 × MS} {x0 : Int32} {I : Nat → Int32} {A : Nat → Nat → Int32} (hf : f_letter x0 I A = some o) : o.2 = (I, A) := ms_ext (fw_letter hf)
theorem rro_isCastling {o : Int32 × MS} {x1 : Int32} {I : Nat → Int32} {A : Nat → Nat → Int32} (hf : f_isCastling x1 I A = some o) : o.2 = (I, A) := ms_ext (fw_isCastling hf)
theorem rro_apartOf {o : Int32 × MS} {x1 : Int32} {I : Nat → Int32} {A : Nat → Nat → Int32} (hf : f_apartOf x1 I A = some o) : o.2 = (I, A) := ms_ext (fw_apartOf hf)
theorem rro_isSpelled {o : Int32 × MS} {x1 : Int32} {x2 : Int32} {x3 : Int32} {I : Nat → Int32} {A : Nat → Nat → Int32} (hf : f_isSpelled x1 x2 x3 I A = some o) : o.2 = (I, A) := ms_ext (fw_isSpelled hf)
theorem rro_sign {o : Int32 × MS}  {I : Nat → Int32} {A : Nat → Nat → Int32} (hf : f_sign  I A = some o) : o.2 = (I, A) := ms_ext (fw_sign hf)
theorem rro_manOf {o : Int32 × MS} {x0 : Int32} {I : Nat → Int32} {A : Nat → Nat → Int32} (hf : f_manOf x0 I A = some o) : o.2 = (I, A) := ms_ext (fw_manOf hf)
theorem rro_countOf {o : Int32 × MS} {x1 : Int32} {I : Nat → Int32} {A : Nat → Nat → Int32} (hf : f_countOf x1 I A = some o) : o.2 = (I, A) := ms_ext (fw_countOf hf)
theorem rro_mayStand {o : Int32 × MS}  {I : Nat → Int32} {A : Nat → Nat → Int32} (hf : f_mayStand  I A = some o) : o.2 = (I, A) := ms_ext (fw_mayStand hf)
theorem rro_look {o : Int32 × MS}  {I : Nat → Int32} {A : Nat → Nat → Int32} (hf : f_look  I A = some o) : o.2 = (I, A) := ms_ext (fw_look hf)
theorem rro_fault {o : Int32 × MS} {x0 : Int32} {x1 : Int32} {I : Nat → Int32} {A : Nat → Nat → Int32} (hf : f_fault x0 x1 I A = some o) : o.2 = (I, A) := ms_ext (fw_fault hf)
theorem rro_isLetter {o : Int32 × MS} {x0 : Int32} {I : Nat → Int32} {A : Nat → Nat → Int32} (hf : f_isLetter x0 I A = some o) : o.2 = (I, A) := ms_ext (fw_isLetter hf)
theorem rro_isDigit {o : Int32 × MS} {x0 : Int32} {I : Nat → Int32} {A : Nat → Nat → Int32} (hf : f_isDigit x0 I A = some o) : o.2 = (I, A) := ms_ext (fw_isDigit hf)
theorem rro_isTag {o : Int32 × MS} {x1 : Int32} {x2 : Int32} {x3 : Int32} {I : Nat → Int32} {A : Nat → Nat → Int32} (hf : f_isTag x1 x2 x3 I A = some o) : o.2 = (I, A) := ms_ext (fw_isTag hf)
theorem rro_isNameThere {o : Int32 × MS} {x1 : Int32} {x2 : Int32} {I : Nat → Int32} {A : Nat → Nat → Int32} (hf : f_isNameThere x1 x2 I A = some o) : o.2 = (I, A) := ms_ext (fw_isNameThere hf)
theorem rro_goesOnWith {o : Int32 × MS} {x1 : Int32} {x2 : Int32} {x3 : Int32} {I : Nat → Int32} {A : Nat → Nat → Int32} (hf : f_goesOnWith x1 x2 x3 I A = some o) : o.2 = (I, A) := ms_ext (fw_goesOnWith hf)
theorem rro_resultHere {o : Int32 × MS}  {I : Nat → Int32} {A : Nat → Nat → Int32} (hf : f_resultHere  I A = some o) : o.2 = (I, A) := ms_ext (fw_resultHere hf)
theorem rro_resultSize {o : Int32 × MS} {x0 : Int32} {I : Nat → Int32} {A : Nat → Nat → Int32} (hf : f_resultSize x0 I A = some o) : o.2 = (I, A) := ms_ext (fw_resultSize hf)
theorem rro_resultSign {o : Int32 × MS} {x0 : Int32} {x1 : Int32} {I : Nat → Int32} {A : Nat → Nat → Int32} (hf : f_resultSign x0 x1 I A = some o) : o.2 = (I, A) := ms_ext (fw_resultSign hf)
theorem rro_isResultValue {o : Int32 × MS} {x1 : Int32} {x2 : Int32} {x3 : Int32} {I : Nat → Int32} {A : Nat → Nat → Int32} (hf : f_isResultValue x1 x2 x3 I A = some o) : o.2 = (I, A) := ms_ext (fw_isResultValue hf)
theorem rro_isLegal {o : Int32 × MS} {x1 : Int32} {I : Nat → Int32} {A : Nat → Nat → Int32} (hf : f_isLegal x1 I A = some o) : o.2 = (I, A) := ms_ext (fw_isLegal hf)
theorem rro_isNode {o : Int32 × MS} {x1 : Int32} {I : Nat → Int32} {A : Nat → Nat → Int32} (hf : f_isNode x1 I A = some o) : o.2 = (I, A) := ms_ext (fw_isNode hf)
theorem rro_isBehind {o : Int32 × MS} {x1 : Int32} {x2 : Int32} {I : Nat → Int32} {A : Nat → Nat → Int32} (hf : f_isBehind x1 x2 I A = some o) : o.2 = (I, A) := ms_ext (fw_isBehind hf)
end
