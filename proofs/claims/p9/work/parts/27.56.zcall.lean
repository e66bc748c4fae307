/-- room and trees alone -/
def RU (S S' : ZS) : Prop := RM S S' ∧ (TZ S → TZ S')
theorem ru_f {W V : List (Nat × Nat)} {B : List Nat} {SZ S S' : ZS} (hR : RU SZ S) (hT : ZT S) (q : EqT S S') (f : FrZ W V B S S') (hv : (6, 0) ∉ V ∧ tdis W V B) : RU SZ S' := ⟨rm_f hR.1 hT q f hv.1, fun t => tz_fr hT f hv.2 (hR.2 t)⟩
theorem ru_I {j a k : Nat} {v : Int32} {SZ S S' : ZS} (hR : RU SZ S) (hT : ZT S) (hk : zK S a = k) (e : S' = zsI S j a v) (hd : tdis [(k, j)] [] []) : RU SZ S' := ⟨rm_I hR.1 e, fun t => tz_fr hT (frz_I frz_0 hk e (List.mem_singleton.2 rfl)) hd (hR.2 t)⟩
/-- the class between two calls -/
def CI (S : ZS) (x0 : Nat) : Prop := ZT S ∧ zK S x0 = 11 ∧ TZ S ∧ ∃ g g' rd, zP S 7 x0 = some g ∧ zP S 5 x0 = some rd ∧ zP S 3 rd = some g' ∧ g ≠ g' ∧ (zI S 8 x0).toInt ≤ (cn S g : Int)
/-- room: what a call may take -/
def RW (S S' : ZS) : Prop := zu S' + 2 * PS S' ≤ zu S + 2 * PS S + 6 ∧ 8 * zt S' + PS S' ≤ 8 * zt S + PS S + 8 ∧ zu S ≤ zu S' ∧ zt S ≤ zt S'
theorem cw_m {S S' : ZS} (h : RM S S') : RW S S' := ⟨by have := h.1; omega, by have := h.2.1; omega, h.2.2.1, h.2.2.2⟩
theorem ps_Q {S : ZS} (hT : ZT S) : PS (zsQ S) = PS S := by
  have h0 : pot (zsQ S) (zt S) = 0 := by
    have hq : 18 ≤ zK S (zt S) := hT.2.2.2.2.1 _ (Nat.le_refl _)
    have hk : zK (zsQ S) (zt S) = zK S (zt S) := rfl
    unfold pot
    rw [hk, if_neg (by omega), if_neg (by omega), if_neg (by omega)]
  have e : PS (zsQ S) = sumN (pot (zsQ S)) (zt S) + pot (zsQ S) (zt S) := rfl
  have e2 : sumN (pot (zsQ S)) (zt S) = PS S := rfl
  rw [e, h0, e2, Nat.add_zero]
theorem cw_q {S S' : ZS} (hT : ZT S') (h : RM S S') : RW S (zsQ S') := by
  have e := ps_Q hT
  have e1 : zu (zsQ S') = zu S' + 6 := rfl
  have e2 : zt (zsQ S') = zt S' + 1 := rfl
  exact ⟨by rw [e, e1]; have := h.1; omega, by rw [e, e2]; have := h.2.1; omega, by rw [e1]; have := h.2.2.1; omega, by rw [e2]; have := h.2.2.2; omega⟩
theorem tz_Q {S : ZS} (h : TZ S) : TZ (zsQ S) := h
theorem ci_Q {S : ZS} {x0 : Nat} (h : CI S x0) : CI (zsQ S) x0 := ⟨zt_Q h.1, h.2.1, h.2.2.1, h.2.2.2⟩
theorem ci_fr {W V : List (Nat × Nat)} {B : List Nat} {S S' : ZS} {x0 : Nat} (h : CI S x0) (T' : ZT S') (Z' : TZ S') (f : FrZ W V B S S') (hd : (1, 3) ∉ W ∧ (11, 8) ∉ W ∧ (11, 5) ∉ V ∧ (11, 7) ∉ V ∧ (2, 3) ∉ V) : CI S' x0 := by
  obtain ⟨hT, kx, hZ, g, g', rd, p7, p5, p3, hne, hcur⟩ := h
  have ff := (f hT.2.2.2.2.1).2.2
  have fx := ff x0 (lt18 kx (by decide))
  rw [kx] at fx
  obtain ⟨b5, q5, k5⟩ := T_11_5 hT kx
  rw [p5] at q5
  cases q5
  obtain ⟨b7, q7, k7⟩ := T_11_7 hT kx
  rw [p7] at q7
  cases q7
  have fr := ff rd (lt18 k5 (by decide))
  rw [k5] at fr
  have fg := ff g (lt18 k7 (by decide))
  rw [k7] at fg
  refine ⟨T', fx.1, Z', g, g', rd, (fx.2.2.2.1 7 hd.2.2.2.1).trans p7, (fx.2.2.2.1 5 hd.2.2.1).trans p5, (fr.2.2.2.1 3 hd.2.2.2.2).trans p3, hne, ?_⟩
  rw [fx.2.2.1 8 hd.2.1]
  have : cn S' g = cn S g := by unfold cn; rw [fg.2.2.1 3 hd.1]
  rw [this]; exact hcur
/-- what a call that may throw leaves -/
def RC (S : ZS) (x0 : Nat) (o : (Nat × Int32) × ZS) : Prop := (o.1.1 = 0 ∧ CI o.2 x0 ∧ RW S o.2 ∧ XR S o.2) ∨ (o.1.1 ≠ 0 ∧ ∃ S1, o.2 = zsQ S1 ∧ CI S1 x0 ∧ RW S o.2 ∧ XR S S1)
theorem rc_n {S S' : ZS} {x0 : Nat} {v : Int32} (h : CI S' x0) (hR : RM S S') (hx : XR S S') : RC S x0 ((0, v), S') := Or.inl ⟨rfl, h, cw_m hR, hx⟩
theorem rc_q {S S' : ZS} {x0 k : Nat} {v : Int32} (hk : k ≠ 0) (h : CI S' x0) (hR : RM S S') (hx : XR S S') : RC S x0 ((k, v), zsQ S') := Or.inr ⟨hk, S', rfl, h, cw_q h.1 hR, hx⟩
/-- a call that leaves the games' trees, and where they stand, as they are -/
theorem ci_thr {W V : List (Nat × Nat)} {B : List Nat} {S : ZS} {x0 : Nat} {e : Option ((Nat × Int32) × ZS)} (h : CI S x0) (hq : Ok e (fun o => ZT o.2 ∧ RQ S o.1.1 o.2 ∧ True)) (f : ∀ o, e = some o → FrZ W V B S o.2) (hd : (1, 3) ∉ W ∧ (11, 8) ∉ W ∧ (11, 5) ∉ V ∧ (11, 7) ∉ V ∧ (2, 3) ∉ V) : Ok e (RC S x0) := by
  obtain ⟨⟨⟨k, v⟩, S'⟩, ho, T', R', -⟩ := hq
  replace R' : RQ S k S' := R'
  refine ⟨((k, v), S'), ho, ?_⟩
  have F : FrZ W V B S S' := f _ ho
  rcases R' with ⟨hk, T1, R1⟩ | ⟨hk, S1, T1, R1, e1⟩
  · subst hk
    exact rc_n (ci_fr h T1 (R1.2.1 h.2.2.1) F hd) R1.1 R1.2.2.2
  · subst e1
    have F1 : FrZ W V B S S1 := fun hF => by
      obtain ⟨a1, a2, a3⟩ := F hF
      refine ⟨T1.2.2.2.2.1, ?_, a3⟩
      have := R1.1.2.2.2
      exact this
    exact rc_q hk (ci_fr h T1 (R1.2.1 h.2.2.1) F1 hd) R1.1 R1.2.2.2
theorem ci_f {α : Type} {Q : α × ZS → Prop} {W V : List (Nat × Nat)} {B : List Nat} {S : ZS} {x0 : Nat} {e : Option (α × ZS)} (h : CI S x0) (hq : Ok e (fun o => ZT o.2 ∧ A7 S o.2 ∧ Q o)) (q : ∀ o, e = some o → EqT S o.2) (f : ∀ o, e = some o → FrZ W V B S o.2) (hd : ((1, 3) ∉ W ∧ (11, 8) ∉ W ∧ (11, 5) ∉ V ∧ (11, 7) ∉ V ∧ (2, 3) ∉ V) ∧ (6, 0) ∉ V ∧ tdis W V B) : Ok e (fun o => CI o.2 x0 ∧ RW S o.2 ∧ XR S o.2) := by
  obtain ⟨o, ho, T', A', -⟩ := hq
  have R := rm_f (rm_0 S) h.1 (q o ho) (f o ho) hd.2.1
  exact ⟨o, ho, ci_fr h T' (tz_fr h.1 (f o ho) hd.2.2 h.2.2.1) (f o ho) hd.1, cw_m R, A'.2⟩
theorem ci_ro {α : Type} {Q : α × ZS → Prop} {S : ZS} {x0 : Nat} {e : Option (α × ZS)} (h : CI S x0) (hq : Ok e (fun o => o.2 = S ∧ Q o)) : Ok e (fun o => CI o.2 x0 ∧ RW S o.2 ∧ XR S o.2) := by
  obtain ⟨o, ho, e1, -⟩ := hq
  exact ⟨o, ho, by rw [e1]; exact h, by rw [e1]; exact cw_m (rm_0 S), by rw [e1]; exact xr_0 S⟩
theorem ci_d {α : Type} {Q : α × ZS → Prop} {W V : List (Nat × Nat)} {B : List Nat} {S : ZS} {x0 : Nat} {e : Option (α × ZS)} (h : CI S x0) (hq : Ok e (fun o => ZT o.2 ∧ RP S o.2 ∧ Q o)) (f : ∀ o, e = some o → FrZ W V B S o.2) (hd : (1, 3) ∉ W ∧ (11, 8) ∉ W ∧ (11, 5) ∉ V ∧ (11, 7) ∉ V ∧ (2, 3) ∉ V) : Ok e (fun o => CI o.2 x0 ∧ RW S o.2 ∧ XR S o.2) := by
  obtain ⟨o, ho, T', R', -⟩ := hq
  exact ⟨o, ho, ci_fr h T' (R'.2.1 h.2.2.1) (f o ho) hd, cw_m R'.1, R'.2.2.2⟩
theorem ci_signs {S : ZS} {x0 : Nat} {x1 : Int32} (h : CI S x0) : Ok (d_X11_signs x0 x1 S) (RC S x0) := ci_thr h (t_d_X11_signs h.1 (rp_0 S) h.2.1) (fun _ ho => fz_X11_signs ho) (by decide)
theorem ci_node {S : ZS} {x0 : Nat} {x1 x2 : Int32} (h : CI S x0) : Ok (d_X11_node x0 x1 x2 S) (RC S x0) := ci_thr h (t_d_X11_node h.1 (rp_0 S) h.2.1) (fun _ ho => fz_X11_node ho) (by decide)
theorem ci_mark {S : ZS} {x0 : Nat} {x1 x2 : Int32} (h : CI S x0) : Ok (d_X11_mark x0 x1 x2 S) (RC S x0) := ci_thr h (t_d_X11_mark h.1 (rp_0 S) h.2.1) (fun _ ho => fz_X11_mark ho) (by decide)
theorem ci_remark {S : ZS} {x0 : Nat} {x1 x2 : Int32} (h : CI S x0) : Ok (d_X11_remark x0 x1 x2 S) (RC S x0) := ci_thr h (t_d_X11_remark h.1 (rp_0 S) h.2.1) (fun _ ho => fz_X11_remark ho) (by decide)
theorem ci_man {S : ZS} {x0 : Nat} {x1 : Int32} (h : CI S x0) : Ok (d_X11_man x0 x1 S) (RC S x0) := ci_thr h (t_d_X11_man h.1 (rp_0 S) h.2.1) (fun _ ho => fz_X11_man ho) (by decide)
theorem ci_addMark {S : ZS} {x0 : Nat} {x1 : Int32} (h : CI S x0) : Ok (d_X11_addMark x0 x1 S) (RC S x0) := ci_thr h (t_d_X11_addMark h.1 (rp_0 S) h.2.1) (fun _ ho => fz_X11_addMark ho) (by decide)
theorem ci_end {S : ZS} {x0 : Nat} {x1 : Int32} (h : CI S x0) : Ok (d_X11_end x0 x1 S) (RC S x0) := ci_thr h (t_d_X11_end h.1 (rp_0 S) h.2.1) (fun _ ho => fz_X11_end ho) (by decide)
theorem ci_tag {S : ZS} {x0 : Nat} {x1 x2 x3 : Int32} (h : CI S x0) : Ok (d_X11_tag x0 x1 x2 x3 S) (RC S x0) := ci_thr h (t_d_X11_tag h.1 (rp_0 S) h.2.1) (fun _ ho => fz_X11_tag ho) (by decide)
theorem ci_find {S : ZS} {x0 : Nat} (h : CI S x0) : Ok (d_X11_find x0 S) (fun o => CI o.2 x0 ∧ RW S o.2 ∧ XR S o.2) := ci_d h (t_d_X11_find h.1 (rp_0 S) h.2.1) (fun _ ho => fz_X11_find ho) (by decide)
theorem ci_go {S : ZS} {x0 : Nat} {x1 : Int32} (h : CI S x0) : Ok (d_X11_go x0 x1 S) (RC S x0) := by
  have h0 := h
  obtain ⟨hT, kx, hZ, g, g', rd, p7, p5, p3, hne, hcur⟩ := h
  obtain ⟨b7, q7, k7⟩ := T_11_7 hT kx
  rw [p7] at q7
  cases q7
  have hc := cn_le hT k7
  show Ok (d_X11_go_0 x0 x1 S) _
  unfold d_X11_go_0
  obtain ⟨y, h1, r1, r2⟩ := roz (t_f_X1_has (x1 := x1) hT k7)
  dsimp only at r1 r2
  refine ok_chk kx (ok_calR p7 (ok_chk k7 (ok_calR h1 (ok_chk ⟨rfl, rfl⟩ (ok_if (fun _ => ok_ret (rc_q (by decide) h0 (rm_0 S) (xr_0 S))) (fun c => ?_))))))
  have hy : y.toInt ≠ 0 := fun e => c (Int32.toInt_inj.1 e)
  have hb := r2 (by omega)
  refine ok_chk kx (ok_bnd (fun S3 e3 => ?_))
  have T3 : ZT S3 := e3.symm ▸ zt_I hT kx (by decide) (show (0 : Int) ≤ x1.toInt ∧ x1.toInt ≤ (300 : Int) by omega)
  have R3 : RM S S3 := rm_I (rm_0 S) e3
  have k3 : zK S3 x0 = 11 := by rw [e3]; exact kx
  have Z3 : TZ S3 := tz_fr (W := [(11, 8)]) (V := []) (B := []) hT (frz_I frz_0 kx e3 (List.mem_singleton.2 rfl)) (by decide) hZ
  have C3 : CI S3 x0 := by
    refine ⟨T3, k3, Z3, g, g', rd, by rw [e3]; exact p7, by rw [e3]; exact p5, by rw [e3]; exact p3, hne, ?_⟩
    have e8 : zI S3 8 x0 = x1 := by rw [e3]; exact zI_self _ _ _ _
    have ec : cn S3 g = cn S g := by unfold cn; rw [e3, zI_j (by decide)]
    rw [e8, ec]; omega
  have p73 : zP S3 7 x0 = some g := by rw [e3]; exact p7
  have k73 : zK S3 g = 1 := by rw [e3]; exact k7
  obtain ⟨b5, p55, k55⟩ := T_11_9 T3 k3
  obtain ⟨⟨y6, S6⟩, h6, T6, A6, -⟩ := t_f_X1_standAt (SZ := S3) (x0 := g) (x1 := x1) (x2 := b5) T3 (a7_0 S3) k73 k55
  replace T6 : ZT S6 := T6
  have q6 : EqT S3 S6 := fq_X1_standAt h6
  exact ok_chk k3 (ok_calR p73 (ok_chk k3 (ok_calR p55 (ok_chk k73 (ok_calR h6 (ok_chk ⟨q6.1, q6.2.1⟩ (ok_ret (rc_n (ci_fr C3 T6 (tz_fr T3 (fz_X1_standAt h6) (by decide) Z3) (fz_X1_standAt h6) (by decide)) (rm_t R3 (rm_f (rm_0 S3) T3 q6 (fz_X1_standAt h6) (by decide))) (xr_t (by rw [e3]; exact xr_I kx (by decide)) A6.2))))))))) 
theorem ci_read {S : ZS} {x0 : Nat} (h : CI S x0) : Ok (d_X11_read x0 S) (fun o => CI o.2 x0 ∧ RW S o.2 ∧ (XR S o.2 ∨ ∃ b, zP o.2 0 x0 = some b ∧ (zI o.2 1 b).toInt ≤ 0)) := by
  have hCI := h
  obtain ⟨hT, kx, hZ, g, g', rd, p7, p5, p3, hne, hcur⟩ := h
  obtain ⟨b5, q5, krd⟩ := T_11_5 hT kx
  rw [p5] at q5
  cases q5
  obtain ⟨b7, q7, k7⟩ := T_11_7 hT kx
  rw [p7] at q7
  cases q7
  obtain ⟨b2, p0, k2, c2⟩ := T_11_0 hT kx
  show Ok (d_X11_read_0 x0 S) _
  unfold d_X11_read_0
  obtain ⟨⟨y3, S3⟩, h3, T3, A3, -⟩ := t_f_X2_begin (SZ := S) (x0 := rd) (x1 := b2) hT (a7_0 S) krd k2 c2
  replace T3 : ZT S3 := T3
  have q3 : EqT S S3 := fq_X2_begin h3
  have R3 : RP S S3 := rp_begin (rp_0 S) hT krd k2 c2 A3 h3
  have O3 : OG rd S S3 := og_begin hT krd k2 c2 h3
  have Z3 : TZ S3 := R3.2.1 hZ
  -- what stays at the object itself
  have stay : ∀ {W V : List (Nat × Nat)} {B : List Nat} {S1 S2 : ZS}, ZT S1 → zK S1 x0 = 11 → zP S1 7 x0 = some g → zP S1 5 x0 = some rd → zI S1 8 x0 = zI S 8 x0 → FrZ W V B S1 S2 → ((11, 8) ∉ W ∧ (11, 5) ∉ V ∧ (11, 7) ∉ V) → zK S2 x0 = 11 ∧ zP S2 7 x0 = some g ∧ zP S2 5 x0 = some rd ∧ zI S2 8 x0 = zI S 8 x0 := by
    intro W V B S1 S2 T1 k1 a7 a5 a8 f hd
    have fx := (f T1.2.2.2.2.1).2.2 x0 (lt18 k1 (by decide))
    rw [k1] at fx
    exact ⟨fx.1, (fx.2.2.2.1 7 hd.2.2).trans a7, (fx.2.2.2.1 5 hd.2.1).trans a5, (fx.2.2.1 8 hd.1).trans a8⟩
  have fail : ∀ S', ZT S' → RT S S' → OG rd S S' → zK S' x0 = 11 ∧ zP S' 7 x0 = some g ∧ zP S' 5 x0 = some rd ∧ zI S' 8 x0 = zI S 8 x0 → Ok (d_X11_read_41 x0 S') (fun o => CI o.2 x0 ∧ RW S o.2 ∧ (XR S o.2 ∨ ∃ b, zP o.2 0 x0 = some b ∧ (zI o.2 1 b).toInt ≤ 0)) := by
    intro S' T' R' O' ⟨k', a7, a5, a8⟩
    obtain ⟨o1, o2, o3⟩ := O' krd
    obtain ⟨o4, o5⟩ := o3 g g' p3 k7 hne
    unfold d_X11_read_41
    obtain ⟨y, hy, -⟩ := roz (t_f_X2_fault T' o1)
    refine ok_chk k' (ok_calR a5 (ok_chk o1 (ok_calR hy (ok_chk ⟨rfl, rfl⟩ (ok_ret ⟨⟨T', k', R'.2.1 hZ, g, g', rd, a7, a5, o2.trans p3, hne, ?_⟩, cw_m R'.1, Or.inl R'.2.2⟩)))))
    show (zI S' 8 x0).toInt ≤ (cn S' g : Int)
    have : cn S' g = cn S g := by unfold cn; rw [o5]
    rw [this, a8]; exact hcur
  have st3 := stay hT kx p7 p5 rfl (fz_X2_begin h3) (by decide)
  obtain ⟨m3, m37, m35, m38⟩ := st3
  have krd3 : zK S3 rd = 2 := (O3 krd).1
  refine ok_chk kx (ok_calR p5 (ok_chk kx (ok_calR p0 (ok_chk krd (ok_calR h3 (ok_chk ⟨q3.1, q3.2.1⟩ (ok_chk m3 (ok_calR m35 (ok_chk krd3 ?_)))))))))
  obtain ⟨⟨y7, S7⟩, h7, T7, R7, -⟩ := t_d_X2_readHead (SZ := S3) T3 (rp_0 S3) krd3
  replace T7 : ZT S7 := T7
  replace R7 : RP S3 S7 := R7
  have O7 : OG rd S S7 := og_t O3 (og_fr T3 (fz_X2_readHead h7) (by decide))
  have RT7 : RT S S7 := rt_of (rp_t R3 R7)
  obtain ⟨m7, m77, m75, m78⟩ := stay T3 m3 m37 m35 m38 (fz_X2_readHead h7) (by decide)
  have krd7 : zK S7 rd = 2 := (O7 krd).1
  refine ok_cal2R h7 (ok_if (fun _ => fail S7 T7 RT7 O7 ⟨m7, m77, m75, m78⟩) (fun _ => ?_))
  obtain ⟨⟨y13, S13⟩, h13, T13, R13, b13, a13⟩ := t_d_X2_readMoves (SZ := S7) T7 (rg_0 rd S7) krd7 (RT7.2.1 hZ)
  replace T13 : ZT S13 := T13
  replace R13 : RG rd S7 S13 := R13
  replace b13 : (0 : Int) ≤ y13.toInt ∧ y13.toInt ≤ (1 : Int) := b13
  replace a13 : y13.toInt = 1 → (zI S13 4 rd).toInt ≤ 90000 := a13
  have O13 : OG rd S S13 := og_t O7 R13.2
  have RT13 : RT S S13 := rt_t RT7 R13.1
  obtain ⟨m13, m137, m135, m138⟩ := stay T7 m7 m77 m75 m78 (fz_X2_readMoves h13) (by decide)
  have krd13 : zK S13 rd = 2 := (O13 krd).1
  refine ok_chk m7 (ok_calR m75 (ok_chk krd7 (ok_cal2R h13 (ok_if (fun _ => fail S13 T13 RT13 O13 ⟨m13, m137, m135, m138⟩) (fun c13 => ?_)))))
  have hy13 : y13.toInt ≠ 0 := fun h => c13 (Int32.toInt_inj.1 h)
  obtain ⟨⟨y19, S19⟩, h19, T19, R19, -⟩ := t_d_X2_readEnd (SZ := S13) T13 (rp_0 S13) krd13 (a13 (by omega))
  replace T19 : ZT S19 := T19
  replace R19 : RP S13 S19 := R19
  have O19 : OG rd S S19 := og_t O13 (og_fr T13 (fz_X2_readEnd h19) (by decide))
  have RT19 : RT S S19 := rt_t RT13 (rt_of R19)
  obtain ⟨m19, m197, m195, m198⟩ := stay T13 m13 m137 m135 m138 (fz_X2_readEnd h19) (by decide)
  have krd19 : zK S19 rd = 2 := (O19 krd).1
  refine ok_chk m13 (ok_calR m135 (ok_chk krd13 (ok_cal2R h19 (ok_if (fun _ => fail S19 T19 RT19 O19 ⟨m19, m197, m195, m198⟩) (fun _ => ?_)))))
  have kg19 : zK S19 g = 1 := ((O19 krd).2.2 g g' p3 k7 hne).1
  have p319 : zP S19 3 rd = some g' := (O19 krd).2.1.trans p3
  have hg3 : 4 ≤ rc g := M_11_7 T19 m19 m197
  obtain ⟨⟨v24, S24⟩, h24, T24, A24, k24, c24⟩ := t_f_X2_exchange (SZ := S19) (x0 := rd) (x1 := g) T19 (a7_0 S19) krd19 kg19 hg3
  replace T24 : ZT S24 := T24
  replace k24 : zK S24 v24 = 1 := k24
  replace c24 : 4 ≤ rc v24 := c24
  have q24 : EqT S19 S24 := fq_X2_exchange h24
  have x24 : v24 = g' ∧ S24 = zsP S19 3 rd (some g) := by
    have hf : f_X2_exchange_0 rd g S19 = some (v24, S24) := h24
    unfold f_X2_exchange_0 at hf
    obtain ⟨-, hf⟩ := m_chkE hf
    obtain ⟨b1, pb1, hf⟩ := m_calE hf
    obtain ⟨-, hf⟩ := m_chkE hf
    obtain ⟨S2, e2, hf⟩ := m_bndE hf
    rw [p319] at pb1
    cases hf
    exact ⟨(Option.some.inj pb1).symm, e2⟩
  obtain ⟨ev, e24⟩ := x24
  have R24 : RT S S24 := rt_P RT19 T19 krd19 e24 (by decide)
  have m24 : zK S24 x0 = 11 := by rw [e24]; exact m19
  refine ok_chk m19 (ok_calR m195 (ok_chk m19 (ok_calR m197 (ok_chk krd19 (ok_calR h24 (ok_chk ⟨q24.1, q24.2.1⟩ (ok_chk m24 (ok_bnd (fun S25 e25 => ?_)))))))))
  have T25 : ZT S25 := e25.symm ▸ zt_P T24 m24 (by decide) (Or.inr ⟨k24, rfl⟩) ⟨c24, rc_le _⟩
  have R25 : RT S S25 := rt_P R24 T24 m24 e25 (by decide)
  have m25 : zK S25 x0 = 11 := by rw [e25]; exact m24
  obtain ⟨b26, p26, k26, c26⟩ := T_11_0 T25 m25
  obtain ⟨y27, S27, h27, T27, -, -⟩ := keep_x (x0 := b26) (x1 := 0) T25 k26
  have q27 : EqT S25 S27 := fq_X6_keep h27
  have R27 : RU S S27 := ru_f ⟨R25.1, R25.2.1⟩ T25 q27 (fz_X6_keep h27) (by decide)
  have m27 : zK S27 x0 = 11 := by rw [q27.2.2.1]; exact m25
  refine ok_chk m25 (ok_calR p26 (ok_chk k26 (ok_calR h27 (ok_chk ⟨q27.1, q27.2.1⟩ (ok_chk m27 (ok_bnd (fun S28 e28 => ?_)))))))
  have T28 : ZT S28 := e28.symm ▸ zt_I T27 m27 (by decide) (by decide)
  have R28 : RU S S28 := ru_I R27 T27 m27 e28 (by decide)
  have m28 : zK S28 x0 = 11 := by rw [e28]; exact m27
  obtain ⟨b29, p29, k29⟩ := T_11_7 T28 m28
  obtain ⟨b30, p30, k30⟩ := T_11_9 T28 m28
  obtain ⟨⟨y31, S31⟩, h31, T31, A31, -⟩ := t_f_X1_standAt (SZ := S28) (x0 := b29) (x1 := 0) (x2 := b30) T28 (a7_0 S28) k29 k30
  replace T31 : ZT S31 := T31
  have q31 : EqT S28 S31 := fq_X1_standAt h31
  have R31 : RU S S31 := ru_f R28 T28 q31 (fz_X1_standAt h31) (by decide)
  refine ok_chk m28 (ok_calR p29 (ok_chk m28 (ok_calR p30 (ok_chk k29 (ok_calR h31 (ok_chk ⟨q31.1, q31.2.1⟩ (ok_ret ⟨?_, cw_m R31.1, Or.inr ⟨b26, ?_, ?_⟩⟩)))))))
  rotate_left
  · have fx := ((fz_X1_standAt h31) T28.2.2.2.2.1).2.2 x0 (lt18 m28 (by decide))
    rw [m28] at fx
    refine (fx.2.2.2.1 0 (by decide)).trans ?_
    rw [e28]
    show zP S27 0 x0 = _
    rw [keep_P h27]
    exact p26
  · have k28 : zK S28 b26 = 6 := by
      rw [e28]
      show zK S27 b26 = 6
      rw [q27.2.2.1]
      exact k26
    have fb := ((fz_X1_standAt h31) T28.2.2.2.2.1).2.2 b26 (lt18 k28 (by decide))
    rw [k28] at fb
    show (zI S31 1 b26).toInt ≤ 0
    rw [fb.2.2.1 1 (by decide), e28, zI_j (by decide)]
    show (zI S27 1 b26).toInt ≤ 0
    have h9 := keep_len k26 h27 (by decide)
    have z9 : (0 : Int32).toInt = 0 := rfl
    omega
  -- where all stands now
  have P27 : zP S27 = zP S25 := keep_P h27
  have pe7 : zP S28 7 x0 = some g' := by
    rw [e28]; show zP S27 7 x0 = _
    rw [P27, e25, zP_s, ev]
  have pe5 : zP S28 5 x0 = some rd := by
    rw [e28]; show zP S27 5 x0 = _
    rw [P27, e25, zP_j (by decide), e24, zP_j (by decide)]; exact m195
  have pe3 : zP S28 3 rd = some g := by
    rw [e28]; show zP S27 3 rd = _
    rw [P27, e25, zP_j (by decide), e24]; exact zP_s
  have krd28 : zK S28 rd = 2 := by
    rw [e28]; show zK S27 rd = 2
    rw [q27.2.2.1, e25]; show zK S24 rd = 2
    rw [e24]; exact krd19
  have ff := ((fz_X1_standAt h31) T28.2.2.2.2.1).2.2
  have fx := ff x0 (lt18 m28 (by decide))
  rw [m28] at fx
  have fr := ff rd (lt18 krd28 (by decide))
  rw [krd28] at fr
  refine ⟨T31, fx.1, R31.2 hZ, g', g, rd, (fx.2.2.2.1 7 (by decide)).trans pe7, (fx.2.2.2.1 5 (by decide)).trans pe5, (fr.2.2.2.1 3 (by decide)).trans pe3, fun e => hne e.symm, ?_⟩
  show (zI S31 8 x0).toInt ≤ _
  rw [fx.2.2.1 8 (by decide), e28, zI_self]
  have z : (0 : Int32).toInt = 0 := rfl
  omega
