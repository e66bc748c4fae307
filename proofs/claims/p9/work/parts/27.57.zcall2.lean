theorem px_fr {W V : List (Nat × Nat)} {B : List Nat} {S S' : ZS} {x k : Nat} (hT : ZT S) (hk : zK S x = k) (h18 : k < 18) (f : FrZ W V B S S') : zK S' x = k ∧ (∀ j, (k, j) ∉ V → zP S' j x = zP S j x) ∧ ∀ j, (k, j) ∉ W → zI S' j x = zI S j x := by
  have fx := (f hT.2.2.2.2.1).2.2 x (lt18 hk h18)
  rw [hk] at fx
  exact ⟨fx.1, fx.2.2.2.1, fx.2.2.1⟩
theorem cw_12 {S S' : ZS} {g r b : Nat} {x2 y : Int32} (hT : ZT S) (hk : zK S g = 1) (hr : zP S 1 g = some r) (hb : zP S 2 g = some b) : ∀ (n : Nat) (l : List Nat) (x3 x4 : Int32), chn (nF S 3 r b) l x3.toInt → (∀ k ∈ l, 1 ≤ k ∧ k ≤ cn S g) → f_X1_childWith_12 n g x2 x3 x4 S = some (y, S') → y.toInt = -1 ∨ (1 ≤ y.toInt ∧ y.toInt ≤ (cn S g : Int))
  | 0, _, _, _, _, _, hf => by cases hf
  | n + 1, l, x3, x4, hc, hm, hf => by
    have ends : x3.toInt = -1 ∨ (1 ≤ x3.toInt ∧ x3.toInt ≤ (cn S g : Int)) := by
      cases l with
      | nil => exact Or.inl hc
      | cons k l =>
        have h1 : x3.toInt = (k : Int) := hc.1
        have h2 := hm k List.mem_cons_self
        omega
    have hf : f_X1_childWith_12s (f_X1_childWith_12 n) g x2 x3 x4 S = some (y, S') := hf
    unfold f_X1_childWith_12s at hf
    rcases m_ifE hf with ⟨-, hf⟩ | ⟨-, hf⟩
    · cases hf; exact ends
    · rcases m_ifE hf with ⟨-, hf⟩ | ⟨c, hf⟩
      · cases hf; exact ends
      · obtain ⟨-, hf⟩ := m_chkE hf
        obtain ⟨⟨d, Sx⟩, h1, hf⟩ := m_calE hf
        obtain ⟨s1, k1, a1⟩ := ok_of (t_f_X1_at hT hk) h1
        dsimp only at s1 k1 a1 hf
        rw [s1] at hf
        obtain ⟨-, hf⟩ := m_chkE hf
        rcases m_ifE hf with ⟨-, hf⟩ | ⟨-, hf⟩
        · cases hf; exact ends
        · obtain ⟨-, hf⟩ := m_chkE hf
          obtain ⟨⟨d', Sy⟩, h2, hf⟩ := m_calE hf
          rw [h1] at h2
          have e2 : (d, Sx) = (d', Sy) := Option.some.inj h2
          have e3 : d = d' := congrArg Prod.fst e2
          have e4 : Sx = Sy := congrArg Prod.snd e2
          dsimp only at hf
          rw [← e3, ← e4, s1] at hf
          obtain ⟨-, hf⟩ := m_chkE hf
          obtain ⟨v3, e5, hf⟩ := m_bndE hf
          cases l with
          | nil =>
            have h3 : x3.toInt = -1 := hc
            exact absurd (Int32.toInt_inj.1 (show x3.toInt = (-1 : Int32).toInt by rw [h3]; rfl)) c
          | cons k l =>
            have hc1 : x3.toInt = (k : Int) := hc.1
            have hk1 := hm k List.mem_cons_self
            have ed : d = nk S r b k := by rw [a1, nd_nk hT hk hr hb (by omega) (by omega), hc1]; rfl
            have hc2 : chn (nF S 3 r b) l (zI S 3 d).toInt := by
              have : nF S 3 r b k = (zI S 3 d).toInt := by unfold nF; rw [← ed]
              rw [← this]; exact hc.2
            exact cw_12 hT hk hr hb n l (zI S 3 d) v3 hc2 (fun j hj => hm j (List.mem_cons_of_mem _ hj)) hf
theorem cw_v {S S' : ZS} {g : Nat} {x1 x2 y : Int32} (hT : ZT S) (hZ : TZ S) (hg : 4 ≤ rc g) (h0 : 0 ≤ x1.toInt) (h1 : x1.toInt ≤ (cn S g : Int)) (hf : f_X1_childWith g x1 x2 S = some (y, S')) : y.toInt = -1 ∨ (1 ≤ y.toInt ∧ y.toInt ≤ (cn S g : Int)) := by
  obtain ⟨r, b, g', r', b', hgg, hrr, hbb, hX, ⟨hn, hbt, L, hl⟩, hY', -⟩ := tz_g hg hZ
  have hk : zK S g = 1 := hX.1.1
  have hr : zP S 1 g = some r := hX.2.1.1
  have hb : zP S 2 g = some b := hX.2.2.1.1
  have hf : f_X1_childWith_0 g x1 x2 S = some (y, S') := hf
  unfold f_X1_childWith_0 at hf
  obtain ⟨-, hf⟩ := m_chkE hf
  obtain ⟨⟨d, Sx⟩, h2, hf⟩ := m_calE hf
  obtain ⟨s1, k1, a1⟩ := ok_of (t_f_X1_at hT hk) h2
  dsimp only at s1 k1 a1 hf
  rw [s1] at hf
  obtain ⟨-, hf⟩ := m_chkE hf
  have ed : d = nk S r b x1.toInt.toNat := by rw [a1, nd_nk hT hk hr hb h0 h1]
  obtain ⟨l1, l2, l3⟩ := hl x1.toInt.toNat (by omega)
  have hch : chn (nF S 3 r b) (L x1.toInt.toNat) (zI S 2 d).toInt := by
    have : nF S 2 r b x1.toInt.toNat = (zI S 2 d).toInt := by unfold nF; rw [← ed]
    rw [← this]; exact l1
  exact cw_12 hT hk hr hb mFuel (L x1.toInt.toNat) (zI S 2 d) 0 hch (fun k hk2 => ⟨((l3 k).1 hk2).1, ((l3 k).1 hk2).2.1⟩) hf
theorem c_95 {S S' : ZS} {x0 g g' rd : Nat} {x1 v : Int32} (hT : ZT S') (kx : zK S' x0 = 11) (hZ : TZ S') (p7 : zP S' 7 x0 = some g) (p5 : zP S' 5 x0 = some rd) (p3 : zP S' 3 rd = some g') (hne : g ≠ g') (h0 : 0 ≤ v.toInt) (h1 : v.toInt ≤ (cn S' g : Int)) (hR : RM S S') (hx : XR S S') : Ok (d_X11_add_95 x0 x1 v S') (RC S x0) := by
  obtain ⟨b7, q7, k7⟩ := T_11_7 hT kx
  rw [p7] at q7
  cases q7
  have hc := cn_le hT k7
  unfold d_X11_add_95
  refine ok_chk kx (ok_bnd (fun S1 e1 => ?_))
  have T1 : ZT S1 := e1.symm ▸ zt_I hT kx (by decide) (show (0 : Int) ≤ v.toInt ∧ v.toInt ≤ (300 : Int) by omega)
  have k1 : zK S1 x0 = 11 := by rw [e1]; exact kx
  have Z1 : TZ S1 := tz_fr (W := [(11, 8)]) (V := []) (B := []) hT (frz_I frz_0 kx e1 (List.mem_singleton.2 rfl)) (by decide) hZ
  have C1 : CI S1 x0 := by
    refine ⟨T1, k1, Z1, g, g', rd, by rw [e1]; exact p7, by rw [e1]; exact p5, by rw [e1]; exact p3, hne, ?_⟩
    have e8 : zI S1 8 x0 = v := by rw [e1]; exact zI_self _ _ _ _
    have ec : cn S1 g = cn S' g := by
      unfold cn
      rw [e1, zI_j (by decide)]
    rw [e8, ec]; exact h1
  obtain ⟨b2, p2, k2⟩ := T_11_9 T1 k1
  obtain ⟨⟨y3, S3⟩, h3, T3, A3, -⟩ := t_f_X0_play (SZ := S1) (x0 := b2) (x1 := x1) T1 (a7_0 S1) k2
  replace T3 : ZT S3 := T3
  have q3 : EqT S1 S3 := fq_X0_play h3
  refine ok_chk k1 (ok_calR p2 (ok_chk k2 (ok_calR h3 (ok_chk ⟨q3.1, q3.2.1⟩ (ok_ret (rc_n (ci_fr C1 T3 (tz_fr T1 (fz_X0_play h3) (by decide) Z1) (fz_X0_play h3) (by decide)) (rm_t (rm_I hR e1) (rm_f (rm_0 S1) T1 q3 (fz_X0_play h3) (by decide))) (xr_t (xr_t hx (by rw [e1]; exact xr_I kx (by decide))) A3.2)))))))
theorem ci_add {S : ZS} {x0 : Nat} {x1 : Int32} (h : CI S x0) : Ok (d_X11_add x0 x1 S) (RC S x0) := by
  have hCI := h
  have hT := h.1
  have kx := h.2.1
  obtain ⟨b1, p1, k1⟩ := T_11_2 hT kx
  obtain ⟨b2, p2, k2⟩ := T_11_9 hT kx
  show Ok (d_X11_add_0 x0 x1 S) _
  unfold d_X11_add_0
  obtain ⟨⟨y3, S3⟩, h3, T3, A3, -⟩ := t_f_X7_isLegal (SZ := S) (x0 := b1) (x1 := b2) (x2 := x1) hT (a7_0 S) k1 k2
  replace T3 : ZT S3 := T3
  have q3 : EqT S S3 := fq_X7_isLegal h3
  have R3 : RM S S3 := rm_f (rm_0 S) hT q3 (fz_X7_isLegal h3) (by decide)
  have C3 : CI S3 x0 := ci_fr hCI T3 (tz_fr hT (fz_X7_isLegal h3) (by decide) h.2.2.1) (fz_X7_isLegal h3) (by decide)
  refine ok_chk kx (ok_calR p1 (ok_chk kx (ok_calR p2 (ok_chk k1 (ok_calR h3 (ok_chk ⟨q3.1, q3.2.1⟩ (ok_if (fun _ => ok_ret (rc_q (by decide) C3 R3 A3.2)) (fun _ => ?_))))))))
  have C3' := C3
  obtain ⟨-, kx3, Z3, g, g', rd, p7, p5, p3, hne, hcur⟩ := C3'
  obtain ⟨b7, q7, k7⟩ := T_11_7 T3 kx3
  rw [p7] at q7
  cases q7
  have hg3 : 4 ≤ rc g := M_11_7 T3 kx3 p7
  have j8 := J_11_8 T3 kx3
  have hc := cn_le T3 k7
  obtain ⟨y5, h5, -⟩ := roz (t_f_X1_childWith (x1 := zI S3 8 x0) (x2 := x1) T3 k7)
  have v5 := cw_v T3 Z3 hg3 j8.1 hcur h5
  refine ok_chk kx3 (ok_calR p7 (ok_chk kx3 (ok_chk k7 (ok_calR h5 (ok_chk ⟨rfl, rfl⟩ (ok_if (fun _ => ?_) (fun c5 => ?_)))))))
  · have z3 : (300 : Int32).toInt = 300 := rfl
    refine ok_chk kx3 (ok_calR p7 (ok_chk k7 (ok_if (fun _ => ok_ret (rc_q (by decide) C3 R3 A3.2)) (fun c6 => ?_))))
    replace c6 := ti_leN (a := (300 : Int32)) (b := zI S3 3 g) c6 rfl rfl
    obtain ⟨y8, h8, -⟩ := roz (t_f_X1_deepOfNext (x1 := zI S3 8 x0) T3 k7)
    refine ok_chk kx3 (ok_calR p7 (ok_chk kx3 (ok_chk k7 (ok_calR h8 (ok_chk ⟨rfl, rfl⟩ (ok_if (fun _ => ?_) (fun _ => ok_ret (rc_q (by decide) C3 R3 A3.2))))))))
    obtain ⟨⟨y11, S12⟩, h11, T12, R12, G12⟩ := t_d_X1_grow (SZ := S3) (x0 := g) (x1 := zI S3 8 x0) (x2 := x1) T3 (rp_0 S3) k7 Z3 hg3 ⟨j8.1, hcur⟩
    replace T12 : ZT S12 := T12
    replace R12 : RP S3 S12 := R12
    refine ok_chk kx3 (ok_calR p7 (ok_chk kx3 (ok_chk k7 (ok_cal2R h11 ?_))))
    rcases G12 with ⟨-, -, h300⟩ | ⟨g1, g2, g3, g4, g5, g6⟩
    · exfalso; omega
    · replace g1 : y11.toInt = (cn S3 g : Int) + 1 := g1
      replace g2 : cn S12 g = cn S3 g + 1 := g2
      obtain ⟨b5, q5, krd⟩ := T_11_5 T3 kx3
      rw [p5] at q5
      cases q5
      have kx12 : zK S12 x0 = 11 := (px_fr T3 kx3 (by decide) (fz_X1_grow h11)).1
      exact c_95 T12 kx12 (R12.2.1 Z3) ((g6 x0 7 (lt18 kx3 (by decide))).trans p7) ((g6 x0 5 (lt18 kx3 (by decide))).trans p5) ((g6 rd 3 (lt18 krd (by decide))).trans p3) hne (by omega) (by omega) (rm_t R3 R12.1) (xr_t A3.2 R12.2.2.2)
  · have n5 : y5.toInt ≠ -1 := fun e => c5 (Int32.toInt_inj.1 e)
    exact c_95 T3 kx3 Z3 p7 p5 p3 hne (show 0 ≤ y5.toInt by omega) (show y5.toInt ≤ (cn S3 g : Int) by omega) R3 A3.2
theorem ci_lead {S : ZS} {x0 : Nat} (h : CI S x0) : Ok (d_X11_lead x0 S) (RC S x0) := by
  have hCI := h
  obtain ⟨hT, kx, hZ, g, g', rd, p7, p5, p3, hne, hcur⟩ := h
  obtain ⟨b7, q7, k7⟩ := T_11_7 hT kx
  rw [p7] at q7
  cases q7
  have hg3 : 4 ≤ rc g := M_11_7 hT kx p7
  have j8 := J_11_8 hT kx
  have hc := cn_le hT k7
  have z0 : (0 : Int32).toInt = 0 := rfl
  show Ok (d_X11_lead_0 x0 S) _
  unfold d_X11_lead_0
  refine ok_chk kx (ok_if (fun _ => ok_ret (rc_q (by decide) hCI (rm_0 S) (xr_0 S))) (fun c0 => ?_))
  have n0 : (zI S 8 x0).toInt ≠ 0 := fun e => c0 (Int32.toInt_inj.1 e)
  obtain ⟨y2, h2, -⟩ := roz (t_f_X1_goesOn (x1 := zI S 8 x0) hT k7)
  refine ok_chk kx (ok_calR p7 (ok_chk kx (ok_chk k7 (ok_calR h2 (ok_chk ⟨rfl, rfl⟩ (ok_if (fun c2 => ?_) (fun _ => ok_chk (by decide) (ok_ret (rc_n hCI (rm_0 S) (xr_0 S))))))))))
  have c2' : y2 = 0 := c2
  have gv : zI S 2 (nd S g (zI S 0 (nd S g (zI S 8 x0)))) ≠ zI S 8 x0 := by
    rcases goes_v hT k7 h2 with ⟨-, e⟩ | ⟨e, -⟩
    · rw [c2'] at e; exact absurd e (by decide)
    · exact e
  obtain ⟨⟨y4, S4⟩, h4, T4, A4, -⟩ := t_f_X1_mayLead (SZ := S) (x0 := g) (x1 := zI S 8 x0) hT (a7_0 S) k7
  replace T4 : ZT S4 := T4
  have q4 : EqT S S4 := fq_X1_mayLead h4
  have R4 : RM S S4 := rm_f (rm_0 S) hT q4 (fz_X1_mayLead h4) (by decide)
  have C4 : CI S4 x0 := ci_fr hCI T4 (tz_fr hT (fz_X1_mayLead h4) (by decide) hZ) (fz_X1_mayLead h4) (by decide)
  refine ok_chk kx (ok_calR p7 (ok_chk kx (ok_chk k7 (ok_calR h4 (ok_chk ⟨q4.1, q4.2.1⟩ (ok_if (fun _ => ok_ret (rc_q (by decide) C4 R4 A4.2)) (fun _ => ?_)))))))
  obtain ⟨r, b, g2, r', b', hgg, hrr, hbb, hX, hY, hY', back⟩ := tz_g hg3 hZ
  have hX0 := hX
  obtain ⟨⟨a1, a2⟩, ⟨b1, b2⟩, ⟨c1, c2⟩, ⟨d1, d2⟩, ⟨e1, e2⟩, f, k⟩ := hX0
  have ff := ((fz_X1_mayLead h4) hT.2.2.2.2.1).2.2
  have ka : ∀ j, zK S (nk S r b j) = 4 := fun j => nk_kind hT d1 e1
  have ka' : ∀ j, zK S (nk S r' b' j) = 4 := fun j => nk_kind hT d2 e2
  have i4 : ∀ a j, zK S a = 4 → zI S4 j a = zI S j a := fun a j ha => (ff a (lt18 ha (by decide))).2.2.1 j (fun h => by cases h)
  have i1 : ∀ a j, zK S a = 1 → zI S4 j a = zI S j a := fun a j ha => (ff a (lt18 ha (by decide))).2.2.1 j (fun h => by cases h)
  have hX4 : TXs S4 g r b g2 r' b' := txs_x hX q4.2.2.1 q4.2.2.2.2 (fun a j ha => (ff a (lt18 ha (by decide))).2.2.2.1 j (fun h => by cases h))
  have hY4 : TY S4 g r b := ty_x hY (by rw [q4.2.2.2.2]) (i1 g 3 a1) (fun j => ⟨i4 _ 0 (ka j), i4 _ 2 (ka j), i4 _ 3 (ka j)⟩)
  have hY4' : TY S4 g2 r' b' := ty_x hY' (by rw [q4.2.2.2.2]) (i1 g2 3 a2) (fun j => ⟨i4 _ 0 (ka' j), i4 _ 2 (ka' j), i4 _ 3 (ka' j)⟩)
  have kx4 : zK S4 x0 = 11 := C4.2.1
  have k74 : zK S4 g = 1 := by rw [q4.2.2.1]; exact k7
  have px := px_fr hT kx (by decide) (fz_X1_mayLead h4)
  have p74 : zP S4 7 x0 = some g := (px.2.1 7 (by decide)).trans p7
  have i8 : zI S4 8 x0 = zI S 8 x0 := px.2.2 8 (by decide)
  obtain ⟨⟨y6, S6⟩, h6, T6, A6, -⟩ := t_f_X1_putFirst (SZ := S4) (x0 := g) (x1 := zI S4 8 x0) T4 (a7_0 S4) k74
  replace T6 : ZT S6 := T6
  have q6 : EqT S4 S6 := fq_X1_putFirst h6
  have R6 : RM S S6 := rm_t R4 (rm_f (rm_0 S4) T4 q6 (fz_X1_putFirst h6) (by decide))
  have cn4 : cn S4 g = cn S g := by unfold cn; rw [i1 g 3 a1]
  have hH : (zI S4 8 x0).toInt = (((zI S 8 x0).toInt.toNat : Nat) : Int) := by rw [i8]; omega
  have nk4 : ∀ j, nk S4 r b j = nk S r b j := fun j => by unfold nk; rw [q4.2.2.2.2]
  have nF4 : ∀ i j, nF S4 i r b j = nF S i r b j := fun i j => by unfold nF; rw [nk4, i4 _ i (ka j)]
  have hPb := (hY.2.1 (zI S 8 x0).toInt.toNat (by omega) (by omega)).1
  have hneq : nF S4 2 r b (nF S4 0 r b (zI S 8 x0).toInt.toNat).toNat ≠ (((zI S 8 x0).toInt.toNat : Nat) : Int) := by
    intro e
    rw [nF4, nF4] at e
    have e1' : nd S g (zI S 8 x0) = nk S r b (zI S 8 x0).toInt.toNat := nd_nk hT a1 b1 c1 j8.1 hcur
    rw [e1'] at gv
    have e2' : nd S g (zI S 0 (nk S r b (zI S 8 x0).toInt.toNat)) = nk S r b (nF S 0 r b (zI S 8 x0).toInt.toNat).toNat := by
      rw [nd_nk hT a1 b1 c1 hPb.1 (by have : (zI S 0 (nk S r b (zI S 8 x0).toInt.toNat)).toInt = nF S 0 r b (zI S 8 x0).toInt.toNat := rfl
                                      omega)]
      rfl
    rw [e2'] at gv
    apply gv
    apply Int32.toInt_inj.1
    have e3' : (zI S 2 (nk S r b (nF S 0 r b (zI S 8 x0).toInt.toNat).toNat)).toInt = nF S 2 r b (nF S 0 r b (zI S 8 x0).toInt.toNat).toNat := rfl
    rw [e3', e]
    omega
  obtain ⟨u1, u2, u3⟩ := putFirst_tz (H := (zI S 8 x0).toInt.toNat) T4 hgg hrr hX4 hY4 hY4' hH (by omega) (by rw [cn4]; omega) hneq h6
  have C6 : CI S6 x0 := ci_fr C4 T6 (back S6 u1 u2 u3) (fz_X1_putFirst h6) (by decide)
  exact ok_chk kx4 (ok_calR p74 (ok_chk kx4 (ok_chk k74 (ok_calR h6 (ok_chk ⟨q6.1, q6.2.1⟩ (ok_chk (by decide) (ok_ret (rc_n C6 R6 (xr_t A4.2 A6.2)))))))))
theorem ci_write {S : ZS} {x0 : Nat} (h : CI S x0) : Ok (d_X11_write x0 S) (fun o => CI o.2 x0 ∧ RW S o.2 ∧ XR S o.2) := by
  have hCI := h
  have hT := h.1
  have kx := h.2.1
  have hZ := h.2.2.1
  show Ok (d_X11_write_0 x0 S) _
  unfold d_X11_write_0
  obtain ⟨w, p1, k1, c1⟩ := T_11_1 hT kx
  have ol : rL w = 90000 := rL_x3 (M_11_1 hT kx p1) c1
  obtain ⟨⟨y2, S2⟩, h2, T2, A2, -⟩ := t_f_X6_keep (SZ := S) (x0 := w) (x1 := 0) hT (a7_0 S) k1 (rc_ol ol)
  replace T2 : ZT S2 := T2
  have q2 : EqT S S2 := fq_X6_keep h2
  have R2 : RP S S2 := rp_f (rp_0 S) hT q2 (fz_X6_keep h2) (by decide) A2
  have l2 := keep_len k1 h2 (by decide)
  have z0 : (0 : Int32).toInt = 0 := rfl
  have kw2 : zK S2 w = 6 := by rw [q2.2.2.1]; exact k1
  have x2 := px_fr hT kx (by decide) (fz_X6_keep h2)
  obtain ⟨s, p3, k3⟩ := T_11_6 T2 x2.1
  obtain ⟨g, p4, k4⟩ := T_11_7 T2 x2.1
  have p12 : zP S2 1 x0 = some w := (x2.2.1 1 (by decide)).trans p1
  have hg3 : 4 ≤ rc g := M_11_7 T2 x2.1 p4
  refine ok_chk kx (ok_calR p1 (ok_chk k1 (ok_calR h2 (ok_chk ⟨q2.1, q2.2.1⟩ (ok_chk x2.1 (ok_calR p3 (ok_chk x2.1 (ok_calR p4 (ok_chk x2.1 (ok_calR p12 (ok_chk k3 ?_)))))))))))
  obtain ⟨⟨y7, S8⟩, h8, T8, R8, l8⟩ := t_d_X3_putHead (SZ := S2) (x0 := s) (x1 := g) (x2 := w) T2 (rp_0 S2) k3 k4 kw2 ol (by omega)
  replace T8 : ZT S8 := T8
  replace R8 : RP S2 S8 := R8
  replace l8 : (zI S8 1 w).toInt ≤ 6000 := l8
  have x8 := px_fr T2 x2.1 (by decide) (fz_X3_putHead h8)
  have p38 : zP S8 6 x0 = some s := (x8.2.1 6 (by decide)).trans p3
  have p48 : zP S8 7 x0 = some g := (x8.2.1 7 (by decide)).trans p4
  have p18 : zP S8 1 x0 = some w := (x8.2.1 1 (by decide)).trans p12
  have ks8 : zK S8 s = 3 := (px_fr T2 k3 (by decide) (fz_X3_putHead h8)).1
  have kg8 : zK S8 g = 1 := (px_fr T2 k4 (by decide) (fz_X3_putHead h8)).1
  have kw8 : zK S8 w = 6 := (px_fr T2 kw2 (by decide) (fz_X3_putHead h8)).1
  have Z8 : TZ S8 := (rp_t R2 R8).2.1 hZ
  obtain ⟨nn, h14, k14, a14⟩ := roz (t_f_X1_at (x1 := 0) T8 kg8)
  dsimp only at k14 a14
  refine ok_cal2R h8 (ok_chk x8.1 (ok_calR p38 (ok_chk x8.1 (ok_calR p48 (ok_chk x8.1 (ok_calR p48 (ok_chk kg8 (ok_calR h14 (ok_chk ⟨rfl, rfl⟩ (ok_chk k14 (ok_chk x8.1 (ok_calR p18 (ok_chk ks8 ?_)))))))))))))
  obtain ⟨⟨y17, S18⟩, h18, ⟨T18, R18, F18⟩, l18⟩ := t_d_X3_putLine (g := g) (x0 := s) (x4 := w) (x2 := zI S8 2 nn) T8 Z8 hg3 ks8 kw8 ol l8 (by rw [a14])
  replace T18 : ZT S18 := T18
  replace R18 : RP S8 S18 := R18
  replace F18 : FrZ WL VL [] S8 S18 := F18
  replace l18 : (zI S18 1 w).toInt ≤ 83400 := l18
  have x18 := px_fr T8 x8.1 (by decide) F18
  have p318 : zP S18 6 x0 = some s := (x18.2.1 6 (by decide)).trans p38
  have p418 : zP S18 7 x0 = some g := (x18.2.1 7 (by decide)).trans p48
  have p118 : zP S18 1 x0 = some w := (x18.2.1 1 (by decide)).trans p18
  have ks18 : zK S18 s = 3 := (px_fr T8 ks8 (by decide) F18).1
  have kg18 : zK S18 g = 1 := (px_fr T8 kg8 (by decide) F18).1
  have kw18 : zK S18 w = 6 := (px_fr T8 kw8 (by decide) F18).1
  refine ok_cal2R h18 (ok_chk x18.1 (ok_calR p318 (ok_chk x18.1 (ok_calR p418 (ok_chk x18.1 (ok_calR p118 (ok_chk ks18 ?_)))))))
  obtain ⟨⟨y25, S26⟩, h26, T26, R26, -⟩ := t_d_X3_putEnd (SZ := S18) (x0 := s) (x1 := g) (x2 := w) T18 (rp_0 S18) kg18 kw18 ol (by omega)
  replace T26 : ZT S26 := T26
  replace R26 : RP S18 S26 := R26
  have x26 := px_fr T18 x18.1 (by decide) (fz_X3_putEnd h26)
  have p126 : zP S26 1 x0 = some w := (x26.2.1 1 (by decide)).trans p118
  have kw26 : zK S26 w = 6 := (px_fr T18 kw18 (by decide) (fz_X3_putEnd h26)).1
  obtain ⟨y30, h30, -⟩ := roz (t_f_X6_size T26 kw26)
  have RR : RP S S26 := rp_t (rp_t (rp_t R2 R8) R18) R26
  have C2 : CI S2 x0 := ci_fr hCI T2 (R2.2.1 hZ) (fz_X6_keep h2) (by decide)
  have C8 : CI S8 x0 := ci_fr C2 T8 Z8 (fz_X3_putHead h8) (by decide)
  have C18 : CI S18 x0 := ci_fr C8 T18 (R18.2.1 Z8) F18 (by decide)
  have C26 : CI S26 x0 := ci_fr C18 T26 (RR.2.1 hZ) (fz_X3_putEnd h26) (by decide)
  exact ok_cal2R h26 (ok_chk x26.1 (ok_calR p126 (ok_chk kw26 (ok_calR h30 (ok_chk ⟨rfl, rfl⟩ (ok_ret ⟨C26, cw_m RR.1, RR.2.2.2⟩))))))
theorem ci_cut {S : ZS} {x0 : Nat} {x1 : Int32} (h : CI S x0) : Ok (f_X11_cut x0 x1 S) (fun o => CI o.2 x0 ∧ RW S o.2 ∧ CX S x0 x1 o) := by
  obtain ⟨o, ho, T', hx⟩ := cut_x (x1 := x1) h.1 h.2.1
  have R := rm_f (rm_0 S) h.1 (fq_X11_cut ho) (fz_X11_cut ho) (by decide)
  exact ⟨o, ho, ci_fr h T' (tz_fr h.1 (fz_X11_cut ho) (by decide) h.2.2.1) (fz_X11_cut ho) (by decide), cw_m R, hx⟩
theorem ci_type {S : ZS} {x0 : Nat} {x1 : Int64} {x3 : Int32} (h : CI S x0) : Ok (d_X11_type x0 x1 x3 S) (fun o => CI o.2 x0 ∧ RW S o.2 ∧ ∀ w, zP S 0 x0 = some w → (zI o.2 1 w).toInt ≤ (zI S 1 w).toInt + 8) := by
  obtain ⟨o, ho, T', R1, R2, hx⟩ := t_d_X11_type (x1 := x1) (x3 := x3) h.1 h.2.1
  exact ⟨o, ho, ci_fr h T' (R2 h.2.2.1) (fz_X11_type ho) (by decide), cw_m R1, hx⟩
/-- say: an answer leaves the text empty, a throw leaves all as it was -/
def RCs (S : ZS) (x0 : Nat) (o : (Nat × Int32) × ZS) : Prop := (o.1.1 = 0 ∧ CI o.2 x0 ∧ RW S o.2 ∧ ∃ w, zP S 0 x0 = some w ∧ (zI o.2 1 w).toInt = 0) ∨ (o.1.1 ≠ 0 ∧ ∃ S1, o.2 = zsQ S1 ∧ CI S1 x0 ∧ RW S o.2 ∧ S1 = S)
theorem ci_say {S : ZS} {x0 : Nat} (h : CI S x0) : Ok (d_X11_say x0 S) (RCs S x0) := by
  obtain ⟨o, ho, hx⟩ := say_x h.1 h.2.1
  refine ⟨o, ho, ?_⟩
  rcases hx with ⟨hk, e⟩ | ⟨hk, w, p0, T', R1, R2, l⟩
  · exact Or.inr ⟨hk, S, e, h, by rw [e]; exact cw_q h.1 (rm_0 S), rfl⟩
  · exact Or.inl ⟨hk, ci_fr h T' (R2 h.2.2.1) (fz_X11_say ho) (by decide), cw_m R1, w, p0, l⟩
theorem ci_move {S : ZS} {x0 : Nat} {x1 : Int32} (h : CI S x0) : Ok (f_X11_move x0 x1 S) (fun o => CI o.2 x0 ∧ RW S o.2 ∧ XR S o.2) := ci_f h (t_f_X11_move h.1 (a7_0 S) h.2.1) (fun _ ho => fq_X11_move ho) (fun _ ho => fz_X11_move ho) ⟨by decide, by decide, by decide⟩
theorem ci_out {S : ZS} {x0 : Nat} {x1 : Int32} (h : CI S x0) : Ok (f_X11_out x0 x1 S) (fun o => CI o.2 x0 ∧ RW S o.2 ∧ XR S o.2) := ci_ro h (t_f_X11_out h.1 h.2.1)
theorem ci_nodes {S : ZS} {x0 : Nat} (h : CI S x0) : Ok (f_X11_nodes x0 S) (fun o => CI o.2 x0 ∧ RW S o.2 ∧ XR S o.2) := ci_ro h (t_f_X11_nodes h.1 h.2.1)
theorem ci_here {S : ZS} {x0 : Nat} (h : CI S x0) : Ok (f_X11_here x0 S) (fun o => CI o.2 x0 ∧ RW S o.2 ∧ XR S o.2) := ci_ro h (t_f_X11_here h.1 h.2.1)
theorem ci_result {S : ZS} {x0 : Nat} (h : CI S x0) : Ok (f_X11_result x0 S) (fun o => CI o.2 x0 ∧ RW S o.2 ∧ XR S o.2) := ci_ro h (t_f_X11_result h.1 h.2.1)
theorem ci_tags {S : ZS} {x0 : Nat} (h : CI S x0) : Ok (f_X11_tags x0 S) (fun o => CI o.2 x0 ∧ RW S o.2 ∧ XR S o.2) := ci_ro h (t_f_X11_tags h.1 h.2.1)
