def WL : List (Nat × Nat) := [(0, 1), (0, 2), (0, 3), (0, 4), (0, 5), (0, 6), (6, 1)]
def VL : List (Nat × Nat) := [(6, 0)]
/-- a state within a written line -/
def SL (S0 S : ZS) : Prop := ZT S ∧ RP S0 S ∧ FrZ WL VL [] S0 S
theorem sl_0 {S : ZS} (hT : ZT S) : SL S S := ⟨hT, rp_0 S, frz_0⟩
theorem sl_d {S0 S S' : ZS} {W V : List (Nat × Nat)} (h : SL S0 S) (hT : ZT S') (hR : RP S S') (f : FrZ W V [] S S') (hW : ∀ x ∈ W, x ∈ WL) (hV : ∀ x ∈ V, x ∈ VL) : SL S0 S' := ⟨hT, rp_t h.2.1 hR, frz_t h.2.2 f hW hV (fun _ h => h)⟩
theorem sl_f {S0 S S' : ZS} {W V : List (Nat × Nat)} (h : SL S0 S) (hT : ZT S') (hA : A7 S S') (q : EqT S S') (f : FrZ W V [] S S') (hW : ∀ x ∈ W, x ∈ WL) (hV : ∀ x ∈ V, x ∈ VL) (hd : (6, 0) ∉ V ∧ tdis W V []) : SL S0 S' := sl_d h hT (rp_f (rp_0 S) h.1 q f hd hA) f hW hV
theorem goes_v {S S' : ZS} {g : Nat} {x1 y : Int32} (hT : ZT S) (hk : zK S g = 1) (hf : f_X1_goesOn g x1 S = some (y, S')) : (zI S 2 (nd S g (zI S 0 (nd S g x1))) = x1 ∧ y = 1) ∨ (zI S 2 (nd S g (zI S 0 (nd S g x1))) ≠ x1 ∧ y = 0) := by
  have hf : f_X1_goesOn_0 g x1 S = some (y, S') := hf
  unfold f_X1_goesOn_0 at hf
  obtain ⟨-, hf⟩ := m_chkE hf
  obtain ⟨⟨c, Sx⟩, h1, hf⟩ := m_calE hf
  obtain ⟨s1, k1, a1⟩ := ok_of (t_f_X1_at hT hk) h1
  dsimp only at s1 k1 a1 hf
  rw [s1] at hf
  obtain ⟨-, hf⟩ := m_chkE hf
  obtain ⟨-, hf⟩ := m_chkE hf
  obtain ⟨⟨d, Sy⟩, h2, hf⟩ := m_calE hf
  obtain ⟨s2, k2, a2⟩ := ok_of (t_f_X1_at hT hk) h2
  dsimp only at s2 k2 a2 hf
  rw [s2] at hf
  obtain ⟨-, hf⟩ := m_chkE hf
  rw [← a1, ← a2]
  rcases m_ifE hf with ⟨e, hf⟩ | ⟨e, hf⟩
  · left
    unfold f_X1_goesOn_24 at hf
    obtain ⟨-, hf⟩ := m_chkE hf
    cases hf
    exact ⟨e, rfl⟩
  · right
    unfold f_X1_goesOn_24 at hf
    obtain ⟨-, hf⟩ := m_chkE hf
    cases hf
    exact ⟨e, rfl⟩
section PL
variable {S0 : ZS} {g r b x0 x4 N : Nat} {L : Nat → List Nat}
/-- what a game and its writer are, before the line -/
def PLh (S0 : ZS) (g r b x0 x4 N : Nat) : Prop := ZT S0 ∧ zK S0 g = 1 ∧ zP S0 1 g = some r ∧ zP S0 2 g = some b ∧ zK S0 r = 4 ∧ zK S0 b = 16 ∧ cn S0 g = N ∧ zK S0 x0 = 3 ∧ zK S0 x4 = 6 ∧ rL x4 = 90000
theorem pl_k {S : ZS} {a k : Nat} (hS : SL S0 S) (hT : ZT S0) (ha : zK S0 a = k) (hk : k < 18) : zK S a = k := ((hS.2.2 hT.2.2.2.2.1).2.2 a (lt18 ha hk)).1.trans ha
theorem pl_at {S : ZS} (hh : PLh S0 g r b x0 x4 N) (hS : SL S0 S) : (zK S g = 1 ∧ zP S 1 g = some r ∧ zP S 2 g = some b ∧ cn S g = N) ∧ (∀ k, nk S r b k = nk S0 r b k) ∧ (∀ k j, j ≤ 3 → zI S j (nk S0 r b k) = zI S0 j (nk S0 r b k)) ∧ ∀ k, zK S0 (nk S0 r b k) = 4 := by
  obtain ⟨hT, hk, hr, hb, kr, kb, hN, -, -, -⟩ := hh
  have ff := (hS.2.2 hT.2.2.2.2.1).2.2
  have fg := ff g (lt18 hk (by decide))
  rw [hk] at fg
  have eB : zB S b = zB S0 b := (ff b (lt18 kb (by decide))).2.2.2.2 (fun h => by cases h)
  have kn : ∀ k, zK S0 (nk S0 r b k) = 4 := fun k => nk_kind hT kr kb
  refine ⟨⟨fg.1, (fg.2.2.2.1 1 (by decide)).trans hr, (fg.2.2.2.1 2 (by decide)).trans hb, ?_⟩, fun k => ?_, fun k j hj => ?_, kn⟩
  · rw [← hN]; unfold cn; rw [fg.2.2.1 3 (by decide)]
  · unfold nk; rw [eB]
  · have := (ff _ (lt18 (kn k) (by decide))).2.2.1 j
    rw [kn k] at this
    refine this ?_
    unfold WL
    simp
theorem pl_nd {S : ZS} {x : Int32} {k : Nat} (hh : PLh S0 g r b x0 x4 N) (hS : SL S0 S) (hx : x.toInt = (k : Int)) (hk : k ≤ N) : nd S g x = nk S0 r b k := by
  obtain ⟨⟨a1, a2, a3, a4⟩, a5, -, -⟩ := pl_at hh hS
  rw [nd_nk hS.1 a1 a2 a3 (by omega) (by rw [a4]; omega), hx, a5]
  rfl
theorem pl_put {S : ZS} {v : Int32} {Q : Int32 × ZS → Prop} {k : Int32 → ZS → Option (Int32 × ZS)} {c : Int} (hh : PLh S0 g r b x0 x4 N) (hS : SL S0 S) (hv : (0 : Int) ≤ v.toInt ∧ v.toInt ≤ (65535 : Int)) (h3 : (zI S 1 x4).toInt ≤ c) (hc : c < 90000) (hk : ∀ y S', SL S0 S' → (zI S' 1 x4).toInt ≤ c + 1 → Ok (k y S') Q) : Ok (m_cal2 (d_X6_put x4 v S) k) Q := by
  have k4 : zK S x4 = 6 := pl_k hS hh.1 hh.2.2.2.2.2.2.2.2.1 (by decide)
  have ol := hh.2.2.2.2.2.2.2.2.2
  obtain ⟨⟨y, S'⟩, h, T', R', p, -⟩ := t_d_X6_put (SZ := S) (x0 := x4) (x1 := v) hS.1 (rp_0 S) k4 hv (by omega) (rc_ol ol)
  refine ok_cal2R h (hk y S' (sl_d hS T' R' (fz_X6_put h) (by decide) (by decide)) ?_)
  have p' : (zI S' 1 x4).toInt = (zI S 1 x4).toInt + 1 := p
  omega
theorem pl_gap {S : ZS} {Q : Int32 × ZS → Prop} {k : Int32 → ZS → Option (Int32 × ZS)} {c : Int} (hh : PLh S0 g r b x0 x4 N) (hS : SL S0 S) (h3 : (zI S 1 x4).toInt ≤ c) (hc : c < 90000) (hk : ∀ y S', SL S0 S' → (zI S' 1 x4).toInt ≤ c + 1 → Ok (k y S') Q) : Ok (m_cal2 (d_X3_putGap x4 S) k) Q := by
  have k4 : zK S x4 = 6 := pl_k hS hh.1 hh.2.2.2.2.2.2.2.2.1 (by decide)
  have ol := hh.2.2.2.2.2.2.2.2.2
  obtain ⟨⟨y, S'⟩, h, T', R', p⟩ := t_d_X3_putGap (SZ := S) (x0 := x4) hS.1 (rp_0 S) k4 rfl ol (by omega)
  refine ok_cal2R h (hk y S' (sl_d hS T' R' (fz_X3_putGap h) (by decide) (by decide)) ?_)
  have p' : (zI S' 1 x4).toInt ≤ (zI S 1 x4).toInt + 1 := p
  omega
theorem pl_24s {rec : Nat → Nat → Int32 → Int32 → Nat → ZS → Option (Int32 × ZS)} {self24 : Nat → Nat → Int32 → Nat → Nat → Int32 → Int32 → Int32 → ZS → Option (Int32 × ZS)} {x5 : Nat} {x3 x6 x7 x8 : Int32} {S : ZS} {Q : Int32 × ZS → Prop} {k : Nat} {c : Int} (hh : PLh S0 g r b x0 x4 N) (hx : x7.toInt = (k : Int)) (h1 : 1 ≤ k) (h2 : k ≤ N) (k5 : zK S0 x5 = 0) (hS : SL S0 S) (h3 : (zI S 1 x4).toInt ≤ c) (hc : c ≤ 89500) (hret : Q (0, S))
    (cont : ∀ (t0 : Int32) (S' : ZS), SL S0 S' → (zI S' 1 x4).toInt ≤ c + 250 → Ok (d_X3_putLine_74 rec self24 x0 g x3 x4 x5 x7 x8 (nk S0 r b k) t0 S') Q) : Ok (d_X3_putLine_24s rec self24 x0 g x3 x4 x5 x6 x7 x8 S) Q := by
  have zm : (-1 : Int32).toInt = -1 := rfl
  obtain ⟨⟨a1, a2, a3, a4⟩, a5, a6, a7⟩ := pl_at hh hS
  have ol := hh.2.2.2.2.2.2.2.2.2
  have kx4 : zK S x4 = 6 := pl_k hS hh.1 hh.2.2.2.2.2.2.2.2.1 (by decide)
  have kx0 : zK S x0 = 3 := pl_k hS hh.1 hh.2.2.2.2.2.2.2.1 (by decide)
  have kx5 : zK S x5 = 0 := pl_k hS hh.1 k5 (by decide)
  unfold d_X3_putLine_24s
  refine ok_if (fun _ => ?_) (fun _ => ok_ifF (fun h => by rw [h] at hx; omega) ?_)
  · unfold d_X3_putLine_206
    exact ok_ret hret
  · obtain ⟨n, hn, kn, en⟩ := roz (t_f_X1_at (x1 := x7) hS.1 a1)
    dsimp only at kn en
    rw [pl_nd hh hS hx h2] at en
    obtain ⟨⟨y, S4⟩, h4, T4, R4, p4⟩ := t_d_X3_putMove (SZ := S) (x0 := x0) (x1 := x5) (x2 := n) (x3 := x6) (x4 := x4) hS.1 (rp_0 S) kx0 kx5 kn kx4 rfl ol (by omega)
    replace T4 : ZT S4 := T4
    replace p4 : (zI S4 1 x4).toInt ≤ (zI S 1 x4).toInt + 250 := p4
    have hS4 : SL S0 S4 := sl_d hS T4 R4 (fz_X3_putMove h4) (by decide) (by decide)
    have kn4 : zK S4 n = 4 := by rw [en]; exact pl_k hS4 hh.1 (a7 k) (by decide)
    obtain ⟨b7, p7, k7, -⟩ := T_4_6 T4 kn4
    obtain ⟨z, hz, pz⟩ := roz (t_f_X6_size T4 k7)
    refine ok_chk a1 (ok_calR hn (ok_chk ⟨rfl, rfl⟩ (ok_chk kx0 (ok_cal2R h4 (ok_chk kn4 (ok_calR p7 (ok_chk k7 (ok_calR hz (ok_chk ⟨rfl, rfl⟩ (ok_if (fun _ => ?_) (fun _ => ?_)))))))))))
    · rw [en]; exact cont _ S4 hS4 (by omega)
    · rw [en]; exact cont _ S4 hS4 (by omega)
theorem pl_99 {len : Nat → Nat} {rec : Nat → Nat → Int32 → Int32 → Nat → ZS → Option (Int32 × ZS)} {self24 : Nat → Nat → Int32 → Nat → Nat → Int32 → Int32 → Int32 → ZS → Option (Int32 × ZS)} {x5 : Nat} {x3 x8 : Int32} {Q : Int32 × ZS → Prop} {k : Nat} (hh : PLh S0 g r b x0 x4 N) (hN : N ≤ 300) (hk : k ≤ N) (k5 : zK S0 x5 = 0) (h33 : 0 ≤ x3.toInt ∧ x3.toInt ≤ 6) : ∀ (l : List Nat) (n : Nat) (x6 x10 x11 : Int32) (S : ZS) (c : Int), chn (nF S0 3 r b) l x10.toInt → (∀ o ∈ l, 1 ≤ o ∧ o ≤ N) → l.length < n → SL S0 S → (zI S 1 x4).toInt ≤ c → c + sm len l ≤ 89400 →
    (∀ o ∈ l, x3.toInt < 6 → ∀ (x v : Int32) (S' : ZS) (c' : Int), x.toInt = (o : Int) → v.toInt = x3.toInt + 1 → SL S0 S' → (zI S' 1 x4).toInt ≤ c' → c' + 250 + 258 * (len o : Int) ≤ 89400 → Ok (rec x0 g x v x4 S') (fun q => SL S0 q.2 ∧ (zI q.2 1 x4).toInt ≤ c' + 250 + 258 * (len o : Int))) →
    (∀ (v x6' v8 : Int32) (S' : ZS), SL S0 S' → (zI S' 1 x4).toInt ≤ c + sm len l → v.toInt = nF S0 2 r b k → Ok (self24 x0 g x3 x4 x5 x6' v v8 S') Q) → Ok (d_X3_putLine_99 rec self24 n x0 g x3 x4 x5 x6 x8 (nk S0 r b k) x10 x11 S) Q := by
  have zm : (-1 : Int32).toInt = -1 := rfl
  have z6 : (6 : Int32).toInt = 6 := rfl
  have fin : ∀ (x6 : Int32) (S : ZS) (d : Int), SL S0 S → (zI S 1 x4).toInt ≤ d → (∀ (v x6' v8 : Int32) (S' : ZS), SL S0 S' → (zI S' 1 x4).toInt ≤ d → v.toInt = nF S0 2 r b k → Ok (self24 x0 g x3 x4 x5 x6' v v8 S') Q) → Ok (d_X3_putLine_183 rec self24 x0 g x3 x4 x5 x6 x8 (nk S0 r b k) S) Q := by
    intro x6 S d hS h3 hself
    obtain ⟨⟨a1, a2, a3, a4⟩, a5, a6, a7⟩ := pl_at hh hS
    have kn : zK S (nk S0 r b k) = 4 := pl_k hS hh.1 (a7 k) (by decide)
    have kx5 : zK S x5 = 0 := pl_k hS hh.1 k5 (by decide)
    have kx4 : zK S x4 = 6 := pl_k hS hh.1 hh.2.2.2.2.2.2.2.2.1 (by decide)
    unfold d_X3_putLine_183
    obtain ⟨⟨y, S1⟩, h1, T1, A1, -⟩ := t_f_X0_play (SZ := S) (x0 := x5) (x1 := zI S 1 (nk S0 r b k)) hS.1 (a7_0 S) kx5
    replace T1 : ZT S1 := T1
    have q1 : EqT S S1 := fq_X0_play h1
    have hS1 : SL S0 S1 := sl_f hS T1 A1 q1 (fz_X0_play h1) (by decide) (by decide) (by decide)
    have kn1 : zK S1 (nk S0 r b k) = 4 := pl_k hS1 hh.1 (a7 k) (by decide)
    have l1 : (zI S1 1 x4).toInt = (zI S 1 x4).toInt := congrArg Int32.toInt ((((fz_X0_play h1) hS.1.2.2.2.2.1).2.2 x4 (lt18 kx4 (by decide))).2.2.1 1 (by rw [kx4]; decide))
    refine ok_chk kn (ok_chk kx5 (ok_calR h1 (ok_chk ⟨q1.1, q1.2.1⟩ (ok_chk kn1 (ok_bnd (fun v2 e2 => ?_))))))
    refine hself _ x6 v2 S1 hS1 (by omega) ?_
    show (zI S1 2 (nk S0 r b k)).toInt = nF S0 2 r b k
    obtain ⟨-, -, b6, -⟩ := pl_at hh hS1
    rw [b6 k 2 (by decide)]
    rfl
  intro l
  induction l with
  | nil =>
    intro n x6 x10 x11 S c hch hl hn hS h3 hc hrec hself
    cases n with
    | zero => omega
    | succ n =>
      have h7 : x10.toInt = -1 := hch
      have e0 : sm len ([] : List Nat) = 0 := rfl
      show Ok (d_X3_putLine_99s rec self24 (d_X3_putLine_99 rec self24 n) x0 g x3 x4 x5 x6 x8 (nk S0 r b k) x10 x11 S) Q
      unfold d_X3_putLine_99s
      have key := fin x6 S (c + sm len []) hS (by omega) hself
      exact ok_if (fun _ => key) (fun _ => ok_ifT (Int32.toInt_inj.1 (by rw [h7]; rfl)) key)
  | cons o l ih =>
    intro n x6 x10 x11 S c hch hl hn hS h3 hc hrec hself
    cases n with
    | zero => exact absurd hn (Nat.not_lt_zero _)
    | succ n =>
      have h7 : x10.toInt = (o : Int) := hch.1
      have ho := hl o List.mem_cons_self
      have e0 : sm len (o :: l) = 258 * (1 + (len o : Int)) + sm len l := rfl
      have snn := sm_nn (len := len) l
      have key := fin x6 S (c + sm len (o :: l)) hS (by omega) hself
      show Ok (d_X3_putLine_99s rec self24 (d_X3_putLine_99 rec self24 n) x0 g x3 x4 x5 x6 x8 (nk S0 r b k) x10 x11 S) Q
      unfold d_X3_putLine_99s
      refine ok_if (fun _ => key) (fun _ => ok_ifF (fun h => by rw [h] at h7; omega) (ok_if (fun _ => key) (fun c6 => ?_)))
      replace c6 := ti_leN (a := (6 : Int32)) (b := x3) c6 rfl rfl
      have kx0 : zK S x0 = 3 := pl_k hS hh.1 hh.2.2.2.2.2.2.2.1 (by decide)
      have kx5 : zK S x5 = 0 := pl_k hS hh.1 k5 (by decide)
      have kx4 : zK S x4 = 6 := pl_k hS hh.1 hh.2.2.2.2.2.2.2.2.1 (by decide)
      obtain ⟨b1, p1, k1, n1⟩ := T_3_1 hS.1 kx0
      refine ok_chk kx0 (ok_calR p1 (ok_bnd (fun v2 e2 => ?_)))
      have t2 : v2.toInt = x3.toInt + 1 := ti_add e2 rfl (show (1 : Int32).toInt = 1 from rfl) (by omega) (by omega)
      refine ok_chk k1 (ok_chk (ti_inN (v := v2) (n := 7) n1 (by omega) (by omega)) ?_)
      obtain ⟨b3, p3, k3⟩ := (hS.1.2.2.2.1 b1).1 k1 v2.toNatClampNeg (ti_cl (v := v2) (by omega) (by omega))
      obtain ⟨⟨y4, S4⟩, h4, T4, A4, -⟩ := t_f_X0_copyFrom (SZ := S) (x0 := b3) (x1 := x5) hS.1 (a7_0 S) k3 kx5
      replace T4 : ZT S4 := T4
      have q4 : EqT S S4 := fq_X0_copyFrom h4
      have hS4 : SL S0 S4 := sl_f hS T4 A4 q4 (fz_X0_copyFrom h4) (by decide) (by decide) (by decide)
      have l4 : (zI S4 1 x4).toInt = (zI S 1 x4).toInt := congrArg Int32.toInt ((((fz_X0_copyFrom h4) hS.1.2.2.2.2.1).2.2 x4 (lt18 kx4 (by decide))).2.2.1 1 (by rw [kx4]; decide))
      refine ok_calR p3 (ok_chk k3 (ok_calR h4 (ok_chk ⟨q4.1, q4.2.1⟩ ?_)))
      refine pl_gap (c := c) hh hS4 (show (zI S4 1 x4).toInt ≤ c by omega) (by omega) (fun y7 S7 hS7 h37 => ?_)
      have kx47 : zK S7 x4 = 6 := pl_k hS7 hh.1 hh.2.2.2.2.2.2.2.2.1 (by decide)
      refine ok_chk kx47 (pl_put (c := c + 1) hh hS7 (by decide) h37 (by omega) (fun y12 S12 hS12 h312 => ?_))
      refine ok_bnd (fun v15 e15 => ?_)
      have t15 : v15.toInt = x3.toInt + 1 := ti_add e15 rfl (show (1 : Int32).toInt = 1 from rfl) (by omega) (by omega)
      have kx012 : zK S12 x0 = 3 := pl_k hS12 hh.1 hh.2.2.2.2.2.2.2.1 (by decide)
      obtain ⟨⟨y17, S18⟩, h18, hS18, h318⟩ := hrec o List.mem_cons_self (by omega) x10 v15 S12 (c + 2) h7 t15 hS12 (by omega) (by omega)
      replace hS18 : SL S0 S18 := hS18
      replace h318 : (zI S18 1 x4).toInt ≤ c + 2 + 250 + 258 * (len o : Int) := h318
      have kx418 : zK S18 x4 = 6 := pl_k hS18 hh.1 hh.2.2.2.2.2.2.2.2.1 (by decide)
      refine ok_chk kx012 (ok_cal2R h18 (ok_chk kx418 (pl_put (c := c + 252 + 258 * (len o : Int)) hh hS18 (by decide) (by omega) (by omega) (fun y22 S23 hS23 h323 => ?_))))
      obtain ⟨⟨a1, a2, a3, a4⟩, a5, a6, a7⟩ := pl_at hh hS23
      obtain ⟨m, hm, km, em⟩ := roz (t_f_X1_at (x1 := x10) hS23.1 a1)
      dsimp only at km em
      rw [pl_nd hh hS23 h7 ho.2] at em
      refine ok_chk a1 (ok_calR hm (ok_chk ⟨rfl, rfl⟩ (ok_chk km (ok_bnd (fun v27 e27 => ?_)))))
      refine ih n 1 (zI S23 3 m) v27 S23 (c + 258 * (1 + (len o : Int))) ?_ (fun j hj => hl j (List.mem_cons_of_mem _ hj)) (by simp only [List.length_cons] at hn; omega) hS23 (by omega) (by omega) (fun j hj => hrec j (List.mem_cons_of_mem _ hj)) (fun v x6' v8 S' hS' h3' hv => hself v x6' v8 S' hS' (by omega) hv)
      have : (zI S23 3 m).toInt = nF S0 3 r b o := by rw [em, a6 o 3 (by decide)]; rfl
      rw [this]; exact hch.2
theorem pl_main (hh : PLh S0 g r b x0 x4 N) (hN : N ≤ 300) (hb : TTb N (nF S0 0 r b) (fun _ => 0)) (hl : TTl N (nF S0 0 r b) (nF S0 2 r b) (nF S0 3 r b) L) : ∀ (m p : Nat), p ≤ N → N < p + m → ∀ (rr : Nat) (x3 : Int32), 0 ≤ x3.toInt ∧ x3.toInt ≤ 6 → 7 ≤ (rr : Int) + x3.toInt → ∀ (f : Nat), N < p + f → ∀ (x5 : Nat) (x6 x7 x8 : Int32) (S : ZS) (c : Int), zK S0 x5 = 0 → x7.toInt = nF S0 2 r b p → SL S0 S → (zI S 1 x4).toInt ≤ c → c + 258 * ((dsc L m p).length : Int) ≤ 89400 → Ok (d_X3_putLine_24 (dr_X3_putLine rr) f x0 g x3 x4 x5 x6 x7 x8 S) (fun q => SL S0 q.2 ∧ (zI q.2 1 x4).toInt ≤ c + 258 * ((dsc L m p).length : Int)) := by
  have zm : (-1 : Int32).toInt = -1 := rfl
  intro m
  induction m with
  | zero => intro p h1 h2; omega
  | succ m ih =>
    intro p hp hm rr x3 hx3 hrr f hf x5 x6 x7 x8 S c k5 hx hS h3 hc
    have hLp := hl p hp
    have hsum : 258 * ((dsc L (m + 1) p).length : Int) = sm (fun x => (dsc L m x).length) (L p) := sm_dsc (L p)
    cases f with
    | zero => omega
    | succ f =>
      show Ok (d_X3_putLine_24s (dr_X3_putLine rr) (d_X3_putLine_24 (dr_X3_putLine rr) f) x0 g x3 x4 x5 x6 x7 x8 S) _
      cases hL : L p with
      | nil =>
        rw [hL] at hLp
        have hC : nF S0 2 r b p = -1 := hLp.1
        have hq : Ok (d_X3_putLine_206 (dr_X3_putLine rr) S) (fun q => SL S0 q.2 ∧ (zI q.2 1 x4).toInt ≤ c + 258 * ((dsc L (m + 1) p).length : Int)) := by
          unfold d_X3_putLine_206
          exact ok_ret ⟨hS, by show (zI S 1 x4).toInt ≤ _; omega⟩
        unfold d_X3_putLine_24s
        exact ok_if (fun _ => hq) (fun _ => ok_ifT (Int32.toInt_inj.1 (by rw [hx, hC]; rfl)) hq)
      | cons F l =>
        rw [hL] at hLp hsum
        have hC : nF S0 2 r b p = (F : Int) := hLp.1.1
        have hmem : ∀ o ∈ F :: l, 1 ≤ o ∧ o ≤ N ∧ nF S0 0 r b o = (p : Int) := fun o ho => (hLp.2.2 o).mp ho
        have hF := hmem F List.mem_cons_self
        have hFp := (hb F hF.1 hF.2.1).1
        have hlen : (F :: l).length ≤ N := by have := chn_len hl hp; rw [hL] at this; exact this
        simp only [List.length_cons] at hlen
        have e0 : sm (fun x => (dsc L m x).length) (F :: l) = 258 * (1 + ((dsc L m F).length : Int)) + sm (fun x => (dsc L m x).length) l := rfl
        have snn := sm_nn (len := fun x => (dsc L m x).length) l
        have goes : ∀ (S' : ZS) (x : Int32) (o : Nat), SL S0 S' → x.toInt = (o : Int) → o ∈ F :: l → zI S' 2 (nd S' g (zI S' 0 (nd S' g x))) = zI S0 2 (nk S0 r b p) := fun S' x o hS' hxo hom => by
          obtain ⟨-, -, a6, -⟩ := pl_at hh hS'
          have hm3 := hmem o hom
          rw [pl_nd hh hS' hxo hm3.2.1, a6 o 0 (by decide)]
          rw [pl_nd hh hS' (k := p) hm3.2.2 hp, a6 p 2 (by decide)]
        refine pl_24s hh (k := F) (c := c) (by rw [hx, hC]) hF.1 hF.2.1 k5 hS h3 (by omega) ⟨hS, by show (zI S 1 x4).toInt ≤ _; omega⟩ (fun t0 S' hS' h3' => ?_)
        unfold d_X3_putLine_74
        obtain ⟨⟨a1, a2, a3, a4⟩, a5, a6, a7⟩ := pl_at hh hS'
        obtain ⟨y, hy, -⟩ := roz (t_f_X1_goesOn (x1 := x7) hS'.1 a1)
        have kn : zK S' (nk S0 r b F) = 4 := pl_k hS' hh.1 (a7 F) (by decide)
        have gv := goes_v hS'.1 a1 hy
        rw [goes S' x7 F hS' (by rw [hx, hC]) List.mem_cons_self] at gv
        have ey : y = 1 := by
          rcases gv with ⟨-, h⟩ | ⟨h, -⟩
          · exact h
          · exact absurd (Int32.toInt_inj.1 (show (zI S0 2 (nk S0 r b p)).toInt = x7.toInt by rw [hx]; rfl)) h
        refine ok_chk a1 (ok_calR hy (ok_chk ⟨rfl, rfl⟩ (ok_ifF (show ¬ y = 0 by rw [ey]; decide) (ok_chk kn ?_))))
        unfold d_X3_putLine_94
        have w1 : (zI S' 3 (nk S0 r b F)).toInt = nF S0 3 r b F := by rw [a6 F 3 (by decide)]; rfl
        refine pl_99 (len := fun x => (dsc L m x).length) hh hN (k := F) hF.2.1 k5 hx3 l mFuel t0 _ 0 S' (c + 250) (by rw [w1]; exact hLp.1.2) (fun o ho => by have := hmem o (List.mem_cons_of_mem _ ho); omega) (by show _ < 200000; omega) hS' h3' (by omega) (fun o ho h6 x v S2 c2 hxo hv hS2 h32 hc2 => ?_) (fun v x6' v8 S2 hS2 h32 hv => ?_)
        · have hom := hmem o (List.mem_cons_of_mem _ ho)
          have hop := (hb o hom.1 hom.2.1).1
          have hoF : o ≠ F := fun e => by
            have := (List.nodup_cons.mp hLp.2.1).1
            exact this (e ▸ ho)
          cases rr with
          | zero => omega
          | succ rr =>
            show Ok (d_X3_putLine_0 (dr_X3_putLine rr) x0 g x v x4 S2) _
            have kx0 : zK S2 x0 = 3 := pl_k hS2 hh.1 hh.2.2.2.2.2.2.2.1 (by decide)
            have kx00 : zK S0 x0 = 3 := hh.2.2.2.2.2.2.2.1
            have z6 : (6 : Int32).toInt = 6 := rfl
            have hT0 := hh.1
            have ff := (hS2.2.2 hT0.2.2.2.2.1).2.2
            obtain ⟨b1, p1, k1, n1⟩ := T_3_1 hT0 kx00
            have p12 : zP S2 1 x0 = some b1 := by
              rw [(ff x0 (lt18 kx00 (by decide))).2.2.2.1 1 (by rw [kx00]; decide)]; exact p1
            have k12 : zK S2 b1 = 15 := (ff b1 (lt18 k1 (by decide))).1.trans k1
            have n12 : zN S2 b1 = 7 := (ff b1 (lt18 k1 (by decide))).2.1.trans n1
            obtain ⟨b2, p2, k2⟩ := (hT0.2.2.2.1 b1).1 k1 v.toNatClampNeg (ti_cl (v := v) (by omega) (by omega))
            have p22 : zB S2 b1 v.toNatClampNeg = some b2 := by
              rw [(ff b1 (lt18 k1 (by decide))).2.2.2.2 (fun h => by cases h)]; exact p2
            unfold d_X3_putLine_0
            refine ok_ifT (Int32.le_iff_toInt_le.2 (by omega)) (ok_chk kx0 (ok_calR p12 (ok_chk k12 (ok_chk (ti_inN (v := v) (n := 7) n12 (by omega) (by omega)) (ok_calR p22 ?_)))))
            obtain ⟨f9, hf9, hf9'⟩ := mF_succ
            rw [hf9]
            show Ok (d_X3_putLine_24s (dr_X3_putLine rr) (d_X3_putLine_24 (dr_X3_putLine rr) f9) x0 g v x4 b2 1 x 0 S2) _
            refine pl_24s hh (k := o) (c := c2) hxo hom.1 hom.2.1 k2 hS2 h32 (by omega) ⟨hS2, by show (zI S2 1 x4).toInt ≤ _; omega⟩ (fun t0 S3 hS3 h33 => ?_)
            unfold d_X3_putLine_74
            obtain ⟨⟨c1, c2', c3, c4⟩, c5, c6, c7⟩ := pl_at hh hS3
            obtain ⟨y3, hy3, -⟩ := roz (t_f_X1_goesOn (x1 := x) hS3.1 c1)
            have gv3 := goes_v hS3.1 c1 hy3
            rw [goes S3 x o hS3 hxo (List.mem_cons_of_mem _ ho)] at gv3
            have ey3 : y3 = 0 := by
              rcases gv3 with ⟨h, -⟩ | ⟨-, h⟩
              · exfalso
                have h8 : nF S0 2 r b p = x.toInt := congrArg Int32.toInt h
                rw [hC, hxo] at h8
                omega
              · exact h
            refine ok_chk c1 (ok_calR hy3 (ok_chk ⟨rfl, rfl⟩ (ok_ifT ey3 ?_)))
            unfold d_X3_putLine_94
            refine pl_99 (len := fun x => (dsc L m x).length) hh hN (k := o) hom.2.1 k2 (by omega) [] mFuel t0 (-1) 0 S3 (c2 + 250) (show (-1 : Int32).toInt = -1 from rfl) (fun _ h => by cases h) (by show 0 < 200000; omega) hS3 h33 (by show c2 + 250 + 0 ≤ 89400; omega) (fun _ h => by cases h) (fun v' x6' v8 S4 hS4 h34 hv' => ?_)
            have h34' : (zI S4 1 x4).toInt ≤ c2 + 250 + 0 := h34
            exact ok_mono (ih o hom.2.1 (by omega) rr v (by omega) (by omega) f9 (by omega) b2 x6' v' v8 S4 (c2 + 250) k2 hv' hS4 (by omega) (by omega)) (fun q hq => hq)
        · exact ok_mono (ih F hF.2.1 (by omega) rr x3 hx3 hrr f (by omega) x5 x6' v v8 S2 (c + 250 + sm (fun x => (dsc L m x).length) l) k5 hv hS2 h32 (by omega)) (fun q hq => ⟨hq.1, by have := hq.2; omega⟩)
end PL
theorem t_d_X3_putLine {S : ZS} {g x0 x4 : Nat} {x2 : Int32} (hT : ZT S) (hZ : TZ S) (hg : 4 ≤ rc g) (k0 : zK S x0 = 3) (k4 : zK S x4 = 6) (ol : rL x4 = 90000) (h3 : (zI S 1 x4).toInt ≤ 6000) (hx : x2 = zI S 2 (nd S g 0)) : Ok (d_X3_putLine x0 g x2 0 x4 S) (fun o => SL S o.2 ∧ (zI o.2 1 x4).toInt ≤ 83400) := by
  obtain ⟨r, b, g', r', b', hgg, hrr, hbb, hX, ⟨hn, hbt, L, hl⟩, hY', -⟩ := tz_g hg hZ
  obtain ⟨⟨a1, -⟩, ⟨b1, -⟩, ⟨c1, -⟩, ⟨d1, -⟩, ⟨e1, -⟩, -⟩ := hX
  have hcn := cn_le hT a1
  have hh : PLh S g r b x0 x4 (cn S g) := ⟨hT, a1, b1, c1, d1, e1, rfl, k0, k4, ol⟩
  have hlen := dsc_len hbt hl (cn S g + 1)
  have z6 : (6 : Int32).toInt = 6 := rfl
  have z0 : (0 : Int32).toInt = 0 := rfl
  show Ok (dr_X3_putLine 8 x0 g x2 0 x4 S) _
  show Ok (d_X3_putLine_0 (dr_X3_putLine 7) x0 g x2 0 x4 S) _
  obtain ⟨bb, p1, k1, n1⟩ := T_3_1 hT k0
  obtain ⟨b2, p2, k2⟩ := (hT.2.2.2.1 bb).1 k1 ((0 : Int32)).toNatClampNeg (by decide)
  unfold d_X3_putLine_0
  refine ok_ifT (by decide) (ok_chk k0 (ok_calR p1 (ok_chk k1 (ok_chk (ti_inN (v := (0 : Int32)) (n := 7) n1 (by decide) (by decide)) (ok_calR p2 ?_)))))
  refine ok_mono (pl_main hh hcn.1 hbt hl (cn S g + 1) 0 (Nat.zero_le _) (by omega) 7 0 (by decide) (by decide) mFuel (by show _ < 0 + 200000; omega) b2 1 x2 0 S 6000 k2 ?_ (sl_0 hT) (by omega) (by omega)) (fun q hq => ⟨hq.1, by have := hq.2; omega⟩)
  rw [hx, nd_nk (i := 0) hT a1 b1 c1 (by decide) (by omega)]
  rfl
