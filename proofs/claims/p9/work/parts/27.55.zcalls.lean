/-- an answer (k = 0), or a throw, with its object made after all else -/
def RQ (S : ZS) (k : Nat) (S' : ZS) : Prop := (k = 0 ∧ ZT S' ∧ RP S S') ∨ (k ≠ 0 ∧ ∃ S1, ZT S1 ∧ RP S S1 ∧ S' = zsQ S1)
theorem rq_n {S S' : ZS} (hT : ZT S') (h : RP S S') : RQ S 0 S' := Or.inl ⟨rfl, hT, h⟩
theorem rq_q {S S' : ZS} {k : Nat} (hk : k ≠ 0) (hT : ZT S') (h : RP S S') : RQ S k (zsQ S') := Or.inr ⟨hk, S', hT, h, rfl⟩
theorem zt_Q {S : ZS} (hT : ZT S) : ZT (zsQ S) := by
  obtain ⟨h1, h2, h3, h4, h5, h6, h7, h8, h9, h10, h11⟩ := hT
  exact ⟨h1, h2, h3, h4, fun a ha => h5 a (Nat.le_trans (Nat.le_succ _) ha), h6, h7, h8, h9, h10, Nat.le_trans h11.1 (Nat.le_succ _), h11.2⟩
/-- what cut answers and does -/
def CX (S : ZS) (x0 : Nat) (x1 : Int32) (o : Int32 × ZS) : Prop := ∃ w, zP S 0 x0 = some w ∧ zK S w = 6 ∧ ((o.1 = 1 ∧ 0 ≤ x1.toInt ∧ x1.toInt ≤ (zI S 1 w).toInt ∧ (o.2 = S ∨ o.2 = zsI S 1 w x1) ∧ zI o.2 1 w = x1) ∨ (o.1 = 0 ∧ (x1.toInt < 0 ∨ (zI S 1 w).toInt < x1.toInt) ∧ o.2 = S))
theorem cut_x {S : ZS} {x0 : Nat} {x1 : Int32} (hT : ZT S) (kx : zK S x0 = 11) : Ok (f_X11_cut x0 x1 S) (fun o => ZT o.2 ∧ CX S x0 x1 o) := by
  obtain ⟨w, p0, kw, cw⟩ := T_11_0 hT kx
  have z : (0 : Int32).toInt = 0 := rfl
  show Ok (f_X11_cut_0 x0 x1 S) _
  unfold f_X11_cut_0
  refine ok_if (fun c => ?_) (fun c => ?_)
  · have c := ti_ltP (a := x1) (b := 0) c rfl rfl
    unfold f_X11_cut_15
    exact ok_chk (by decide) (ok_ret ⟨hT, w, p0, kw, Or.inr ⟨rfl, Or.inl (by omega), rfl⟩⟩)
  · have c := ti_ltN (a := x1) (b := 0) c rfl rfl
    obtain ⟨r2, h2, p2⟩ := roz (t_f_X6_size (x0 := w) hT kw)
    dsimp only at p2
    have s2 : r2.toInt = (zI S 1 w).toInt := congrArg Int32.toInt p2.2
    refine ok_chk kx (ok_calR p0 (ok_chk kw (ok_calR h2 (ok_if (fun c2 => ?_) (fun c2 => ?_)))))
    · have c2 := ti_leP (a := x1) (b := r2) c2 rfl rfl
      obtain ⟨y, S', h3, T', -, h4⟩ := keep_x (x1 := x1) hT kw
      refine ok_chk kx (ok_calR p0 (ok_chk kw (ok_calR h3 (ok_chk (by decide) (ok_ret ⟨T', w, p0, kw, Or.inl ⟨rfl, by omega, by omega, ?_, ?_⟩⟩)))))
      · rcases h4 with h4 | h4
        · exact Or.inl h4.1
        · exact Or.inr h4.1
      · show zI S' 1 w = x1
        rcases h4 with ⟨e, h4⟩ | ⟨e, -⟩
        · rw [e]
          exact Int32.toInt_inj.1 (by omega)
        · rw [e, zI_self]
    · have c2 := ti_leN (a := x1) (b := r2) c2 rfl rfl
      unfold f_X11_cut_15
      exact ok_chk (by decide) (ok_ret ⟨hT, w, p0, kw, Or.inr ⟨rfl, Or.inr (by omega), rfl⟩⟩)
theorem say_x {S : ZS} {x0 : Nat} (hT : ZT S) (kx : zK S x0 = 11) : Ok (d_X11_say x0 S) (fun o => (o.1.1 ≠ 0 ∧ o.2 = zsQ S) ∨ (o.1.1 = 0 ∧ ∃ w, zP S 0 x0 = some w ∧ ZT o.2 ∧ RM S o.2 ∧ (TZ S → TZ o.2) ∧ (zI o.2 1 w).toInt = 0)) := by
  obtain ⟨w, p0, kw, cw⟩ := T_11_0 hT kx
  have lo := M_11_0 hT kx p0
  have jw := J61_2 hT kw cw
  have z0 : (0 : Int32).toInt = 0 := rfl
  show Ok (d_X11_say_0 x0 S) _
  unfold d_X11_say_0
  obtain ⟨r2, h2, p2⟩ := roz (t_f_X6_size (x0 := w) hT kw)
  dsimp only at p2
  have s2 : r2.toInt = (zI S 1 w).toInt := congrArg Int32.toInt p2.2
  refine ok_chk kx (ok_calR p0 (ok_chk kw (ok_calR h2 (ok_chk ⟨rfl, rfl⟩ (ok_if (fun _ => ok_ret (Or.inl ⟨show (1 : Nat) ≠ 0 by decide, rfl⟩)) (fun c1 => ?_))))))
  have c1 := ti_ltN (a := (200 : Int32)) (b := r2) c1 (show (200 : Int32).toInt = 200 from rfl) rfl
  obtain ⟨r4, h4, -⟩ := roz (t_f_X6_indexOf (x0 := w) (x1 := (125 : Int32)) (x2 := (0 : Int32)) hT kw (by have y0 : (125 : Int32).toInt = 125 := rfl; omega))
  refine ok_chk kx (ok_calR p0 (ok_chk kw (ok_calR h4 (ok_chk ⟨rfl, rfl⟩ (ok_if (fun _ => ok_ret (Or.inl ⟨show (1 : Nat) ≠ 0 by decide, rfl⟩)) (fun c2 => ?_))))))
  obtain ⟨r6, h6, -⟩ := roz (t_f_X6_indexOf (x0 := w) (x1 := (10 : Int32)) (x2 := (0 : Int32)) hT kw (by have y0 : (10 : Int32).toInt = 10 := rfl; omega))
  refine ok_chk kx (ok_calR p0 (ok_chk kw (ok_calR h6 (ok_chk ⟨rfl, rfl⟩ (ok_if (fun c3 => ?_) (fun _ => ok_ret (Or.inl ⟨show (1 : Nat) ≠ 0 by decide, rfl⟩)))))))
  obtain ⟨g, p7, k7⟩ := T_11_7 hT kx
  obtain ⟨r8, h8, p8⟩ := roz (t_f_X1_at (x0 := g) (x1 := (zI S 8 x0)) hT k7)
  dsimp only at p8
  obtain ⟨b9, p9, k9, c9⟩ := T_4_6 hT p8.1
  have rl9 := rL_0 c9
  obtain ⟨⟨r12, S13⟩, h12, T13, R13, -⟩ := t_d_X6_copyFrom (x0 := b9) (x1 := w) (SZ := S) hT (rp_0 S) k9 kw (Or.inr (by omega)) (by omega)
  replace T13 : ZT S13 := T13
  replace R13 : RP S S13 := R13
  have f13 := (fz_X6_copyFrom h12 hT.2.2.2.2.1).2.2
  have fx := f13 x0 (lt18 kx (by decide))
  rw [kx] at fx
  have kw13 : zK S13 w = 6 := (R13.2.2.2 w kw (by omega)).1
  have p13 : zP S13 0 x0 = some w := (fx.2.2.2.1 0 (by decide)).trans p0
  obtain ⟨y, S17, h17, T17, q17, -⟩ := keep_x (x1 := 0) T13 kw13
  have l17 := keep_len kw13 h17 (by decide)
  have kw17 : zK S17 w = 6 := by rw [q17.2.2.1]; exact kw13
  have j17 := J_6_1 T17 kw17
  refine ok_chk kx (ok_calR p7 (ok_chk kx (ok_chk k7 (ok_calR h8 (ok_chk ⟨rfl, rfl⟩ (ok_chk p8.1 (ok_calR p9 (ok_chk kx (ok_calR p0 (ok_chk k9 (ok_cal2R h12 (ok_chk fx.1 (ok_calR p13 (ok_chk kw13 (ok_calR h17 (ok_chk ⟨q17.1, q17.2.1⟩ (ok_ret (Or.inr ⟨rfl, w, p0, T17, rm_t R13.1 (rm_f (rm_0 S13) T13 q17 (fz_X6_keep h17) (by decide)), fun t => tz_fr T13 (fz_X6_keep h17) (by decide) (R13.2.1 t), ?_⟩))))))))))))))))))
  show (zI S17 1 w).toInt = 0
  omega
theorem t_d_X11_type_77 {x0 w : Nat} {x1 : Int64} {x3 : Int32} (hx3 : x3.toInt ≤ 8) (hc : rc w = 2) : ∀ (n : Nat) (x4 : Int32) (S : ZS), ZT S → zK S x0 = 11 → zP S 0 x0 = some w → zK S w = 6 → 0 ≤ x4.toInt → x4.toInt ≤ x3.toInt → (zI S 1 w).toInt + (x3.toInt - x4.toInt) ≤ 2000 → x3.toInt - x4.toInt < (n : Int) → Ok (d_X11_type_77 n x0 x1 x3 x4 S) (fun o => ZT o.2 ∧ RPc w S o.2 ∧ (zI o.2 1 w).toInt = (zI S 1 w).toInt + (x3.toInt - x4.toInt) ∧ o.1 = 1) := by
  intro n
  induction n with
  | zero => intro x4 S _ _ _ _ h1 h2 _ h4; exfalso; omega
  | succ n ih =>
    intro x4 S hT kx p0 kw h1 h2 h3 h4
    show Ok (d_X11_type_77s (d_X11_type_77 n) x0 x1 x3 x4 S) _
    unfold d_X11_type_77s
    refine ok_if (fun c => ?_) (fun c => ?_)
    · have c := ti_leP (a := x3) (b := x4) c rfl rfl
      exact ok_chk (by decide) (ok_ret ⟨hT, rpc_of (rp_0 S), by show (zI S 1 w).toInt = _; omega, rfl⟩)
    · have c := ti_leN (a := x3) (b := x4) c rfl rfl
      obtain ⟨r, h5, r5⟩ := roz (t_f_X11_byteOf (x0 := x1) (x2 := x4) hT)
      dsimp only at r5
      have rl : rL w = 2000 := rL_x2 (by omega) (by omega)
      obtain ⟨⟨y, S5⟩, h6, T5, R5, l5, -⟩ := p_d_X6_put (SZ := S) (x0 := w) (x1 := r) hT (rpc_of (rp_0 S)) kw r5 (by omega)
      replace T5 : ZT S5 := T5
      replace R5 : RPc w S S5 := R5
      replace l5 : (zI S5 1 w).toInt = (zI S 1 w).toInt + 1 := l5
      have f := (fz_X6_put h6 hT.2.2.2.2.1).2.2
      have fx := f x0 (lt18 kx (by decide))
      rw [kx] at fx
      have fw := f w (lt18 kw (by decide))
      rw [kw] at fw
      refine ok_chk kx (ok_calR p0 (ok_calR h5 (ok_chk ⟨rfl, rfl⟩ (ok_chk kw (ok_cal2R h6 (ok_bnd (fun v8 e8 => ?_)))))))
      have t8 : v8.toInt = x4.toInt + 1 := ti_add e8 rfl (show (1 : Int32).toInt = 1 from rfl) (by omega) (by omega)
      obtain ⟨o, ho, a1, a2, a3, a4⟩ := ih v8 S5 T5 fx.1 ((fx.2.2.2.1 0 (by decide)).trans p0) fw.1 (by omega) (by omega) (by omega) (by omega)
      exact ⟨o, ho, a1, rpc_t R5 a2, by omega, a4⟩
theorem t_d_X11_type_31 {x0 w : Nat} {x1 : Int64} {x3 : Int32} {S : ZS} (hx3 : 0 ≤ x3.toInt ∧ x3.toInt ≤ 8) (hc : rc w = 2) (hT : ZT S) (kx : zK S x0 = 11) (p0 : zP S 0 x0 = some w) (kw : zK S w = 6) (h3 : (zI S 1 w).toInt + x3.toInt ≤ 2000) : ∀ (n : Nat) (x4 : Int32), 0 ≤ x4.toInt → x4.toInt ≤ x3.toInt → x3.toInt - x4.toInt < (n : Int) → Ok (d_X11_type_31 n x0 x1 x3 x4 S) (fun o => ZT o.2 ∧ RPc w S o.2 ∧ (zI o.2 1 w).toInt ≤ (zI S 1 w).toInt + 8) := by
  intro n
  induction n with
  | zero => intro x4 h1 h2 h4; exfalso; omega
  | succ n ih =>
    intro x4 h1 h2 h4
    show Ok (d_X11_type_31s (d_X11_type_31 n) x0 x1 x3 x4 S) _
    unfold d_X11_type_31s
    refine ok_if (fun c => ?_) (fun c => ?_)
    · have z0 : (0 : Int32).toInt = 0 := rfl
      obtain ⟨o, ho, a1, a2, a3, -⟩ := t_d_X11_type_77 (x0 := x0) (x1 := x1) hx3.2 hc mFuel 0 S hT kx p0 kw (by omega) (by omega) (by omega) (by show x3.toInt - (0 : Int32).toInt < ((200000 : Nat) : Int); omega)
      exact ⟨o, ho, a1, a2, by omega⟩
    · have c := ti_leN (a := x3) (b := x4) c rfl rfl
      obtain ⟨r, h5, -⟩ := roz (t_f_X11_byteOf (x0 := x1) (x2 := x4) hT)
      have hgo : Ok (d_X11_type_68 (d_X11_type_31 n) x0 x1 x3 x4 S) (fun o => ZT o.2 ∧ RPc w S o.2 ∧ (zI o.2 1 w).toInt ≤ (zI S 1 w).toInt + 8) := by
        unfold d_X11_type_68
        refine ok_bnd (fun v1 e1 => ?_)
        have t1 : v1.toInt = x4.toInt + 1 := ti_add e1 rfl (show (1 : Int32).toInt = 1 from rfl) (by omega) (by omega)
        exact ih v1 (by omega) (by omega) (by omega)
      have hno : Ok (d_X11_type_66 S) (fun o => ZT o.2 ∧ RPc w S o.2 ∧ (zI o.2 1 w).toInt ≤ (zI S 1 w).toInt + 8) := by
        unfold d_X11_type_66
        exact ok_chk (by decide) (ok_ret ⟨hT, rpc_of (rp_0 S), by show (zI S 1 w).toInt ≤ _; omega⟩)
      exact ok_calR h5 (ok_chk ⟨rfl, rfl⟩ (ok_if (fun _ => hgo) (fun _ => ok_if (fun _ => hno) (fun _ => ok_if (fun _ => hgo) (fun _ => hno)))))
theorem t_d_X11_type {S : ZS} {x0 : Nat} {x1 : Int64} {x3 : Int32} (hT : ZT S) (kx : zK S x0 = 11) : Ok (d_X11_type x0 x1 x3 S) (fun o => ZT o.2 ∧ RM S o.2 ∧ (TZ S → TZ o.2) ∧ ∀ w, zP S 0 x0 = some w → (zI o.2 1 w).toInt ≤ (zI S 1 w).toInt + 8) := by
  obtain ⟨w, p0, kw, cw⟩ := T_11_0 hT kx
  have lo := M_11_0 hT kx p0
  have jw := J61_2 hT kw cw
  have z0 : (0 : Int32).toInt = 0 := rfl
  have hno : Ok (d_X11_type_26 S) (fun o => ZT o.2 ∧ RM S o.2 ∧ (TZ S → TZ o.2) ∧ ∀ w, zP S 0 x0 = some w → (zI o.2 1 w).toInt ≤ (zI S 1 w).toInt + 8) := by
    unfold d_X11_type_26
    exact ok_chk (by decide) (ok_ret ⟨hT, rm_0 S, fun t => t, fun v _ => by show (zI S 1 v).toInt ≤ _; omega⟩)
  show Ok (d_X11_type_0 x0 x1 x3 S) _
  unfold d_X11_type_0
  obtain ⟨r2, h2, p2⟩ := roz (t_f_X6_size (x0 := w) hT kw)
  dsimp only at p2
  have s2 : r2.toInt = (zI S 1 w).toInt := congrArg Int32.toInt p2.2
  refine ok_if (fun _ => hno) (fun c1 => ok_if (fun _ => hno) (fun c2 => ok_chk kx (ok_calR p0 (ok_chk kw (ok_calR h2 (ok_chk ⟨rfl, rfl⟩ (ok_bnd (fun v3 e3 => ok_if (fun c3 => ?_) (fun _ => hno)))))))))
  have c1 := ti_ltN (a := x3) (b := (1 : Int32)) c1 rfl (show (1 : Int32).toInt = 1 from rfl)
  have c2 := ti_ltN (a := (8 : Int32)) (b := x3) c2 (show (8 : Int32).toInt = 8 from rfl) rfl
  have t3 : v3.toInt = (zI S 1 w).toInt + x3.toInt := ti_add e3 s2 rfl (by omega) (by omega)
  have c3 := ti_leP (a := v3) (b := (2000 : Int32)) c3 rfl (show (2000 : Int32).toInt = 2000 from rfl)
  obtain ⟨o, ho, a1, a2, a3⟩ := t_d_X11_type_31 (x0 := x0) (x1 := x1) (x3 := x3) ⟨by omega, by omega⟩ (by omega) hT kx p0 kw (by omega) mFuel 0 (by omega) (by omega) (by show x3.toInt - (0 : Int32).toInt < ((200000 : Nat) : Int); omega)
  refine ⟨o, ho, a1, a2.1, a2.2.1, fun v hv => ?_⟩
  rw [p0] at hv
  cases hv
  exact a3
theorem t_d_X11_signs_0 {SZ S : ZS} {x0 : Nat} {x1 : Int32} (hT : ZT S) (hR : RP SZ S) (r_x0 : zK S x0 = 11) : Ok (d_X11_signs_0 x0 x1 S) (fun o => ZT o.2 ∧ RQ SZ o.1.1 o.2 ∧ True) := by
  unfold d_X11_signs_0
  refine ok_chk r_x0 ?_
  obtain ⟨b1, p_b1, k_b1⟩ := T_11_2 hT r_x0
  refine ok_calR p_b1 ?_
  refine ok_chk r_x0 ?_
  obtain ⟨b2, p_b2, k_b2⟩ := T_11_9 hT r_x0
  refine ok_calR p_b2 ?_
  refine ok_chk k_b1 ?_
  obtain ⟨⟨r3, S3⟩, h_r3, T_S3, A_S3, p_r3⟩ := t_f_X7_isLegal (x0 := b1) (x1 := b2) (x2 := x1) (SZ := S) hT (a7_0 S) k_b1 k_b2
  replace T_S3 : ZT S3 := T_S3
  replace A_S3 : A7 S S3 := A_S3
  dsimp only at p_r3
  refine ok_calR h_r3 ?_
  have q_S3 := fq_X7_isLegal h_r3
  have kE_S3 : zK S3 = zK S := q_S3.2.2.1
  have nE_S3 : zN S3 = zN S := q_S3.2.2.2.1
  have R_S3 : RP SZ S3 := rp_f hR hT q_S3 (fz_X7_isLegal h_r3) (by decide) A_S3
  refine ok_chk ⟨q_S3.1, q_S3.2.1⟩ ?_
  refine ok_if (fun c1 => ?_) (fun c1 => ?_)
  ·
    replace c1 := ti_eqP (a := r3) (b := (0 : Int32)) c1 rfl (show (0 : Int32).toInt = 0 from rfl)
    exact ok_ret ⟨(zt_Q T_S3), (rq_q (k := 1) (by decide) T_S3 R_S3), trivial⟩
  ·
    replace c1 := ti_eqN (a := r3) (b := (0 : Int32)) c1 rfl (show (0 : Int32).toInt = 0 from rfl)
    refine ok_chk ((congrFun kE_S3 x0).trans r_x0) ?_
    obtain ⟨b4, p_b4, k_b4, c_b4⟩ := T_11_1 T_S3 ((congrFun kE_S3 x0).trans r_x0)
    have lo_b4 := M_11_1 T_S3 ((congrFun kE_S3 x0).trans r_x0) p_b4
    have rl_b4 := rL_x3 lo_b4 c_b4
    refine ok_calR p_b4 ?_
    refine ok_chk k_b4 ?_
    have j2 := J_6_1 T_S3 k_b4
    obtain ⟨⟨r5, S5⟩, h_r5, T_S5, A_S5, -⟩ := t_f_X6_keep (x0 := b4) (x1 := (0 : Int32)) (SZ := S3) T_S3 (a7_0 S3) k_b4 (rc_ol rl_b4)
    replace T_S5 : ZT S5 := T_S5
    replace A_S5 : A7 S3 S5 := A_S5
    refine ok_calR h_r5 ?_
    have q_S5 := fq_X6_keep h_r5
    have kE_S5 : zK S5 = zK S3 := q_S5.2.2.1
    have nE_S5 : zN S5 = zN S3 := q_S5.2.2.2.1
    have R_S5 : RP SZ S5 := rp_f R_S3 T_S3 q_S5 (fz_X6_keep h_r5) (by decide) A_S5
    have kl := keep_len k_b4 h_r5 (by decide)
    have z9 : (0 : Int32).toInt = 0 := rfl
    refine ok_chk ⟨q_S5.1, q_S5.2.1⟩ ?_
    refine ok_chk ((congrFun kE_S5 x0).trans ((congrFun kE_S3 x0).trans r_x0)) ?_
    obtain ⟨b6, p_b6, k_b6⟩ := T_11_4 T_S5 ((congrFun kE_S5 x0).trans ((congrFun kE_S3 x0).trans r_x0))
    refine ok_calR p_b6 ?_
    refine ok_chk ((congrFun kE_S5 x0).trans ((congrFun kE_S3 x0).trans r_x0)) ?_
    obtain ⟨b7, p_b7, k_b7⟩ := T_11_9 T_S5 ((congrFun kE_S5 x0).trans ((congrFun kE_S3 x0).trans r_x0))
    refine ok_calR p_b7 ?_
    refine ok_chk ((congrFun kE_S5 x0).trans ((congrFun kE_S3 x0).trans r_x0)) ?_
    obtain ⟨b8, p_b8, k_b8, c_b8⟩ := T_11_1 T_S5 ((congrFun kE_S5 x0).trans ((congrFun kE_S3 x0).trans r_x0))
    have lo_b8 := M_11_1 T_S5 ((congrFun kE_S5 x0).trans ((congrFun kE_S3 x0).trans r_x0)) p_b8
    have rl_b8 := rL_x3 lo_b8 c_b8
    refine ok_calR p_b8 ?_
    have eb : b8 = b4 := by have h9 := p_b8; rw [(((fz_X6_keep h_r5) T_S3.2.2.2.2.1).2.2 x0 (lt18 ((congrFun kE_S3 x0).trans r_x0) (by decide))).2.2.2.1 1 (by rw [((congrFun kE_S3 x0).trans r_x0)]; decide), p_b4] at h9; exact (Option.some.inj h9).symm
    rw [← eb] at kl
    refine ok_chk k_b6 ?_
    have j3 := J_6_1 T_S5 k_b8
    obtain ⟨⟨r10, S11⟩, h_r10, T_S11, B_S11, p_r10_0⟩ := t_d_X9_putSigns (x0 := b6) (x1 := b7) (x2 := x1) (x3 := b8) (SZ := S5) T_S5 (rp_0 S5) k_b6 k_b7 k_b8 rfl rl_b8 (by omega)
    replace T_S11 : ZT S11 := T_S11
    replace B_S11 : RP S5 S11 := B_S11
    have R_S11 : RP SZ S11 := rp_t R_S5 B_S11
    dsimp only at p_r10_0
    refine ok_cal2R h_r10 ?_
    have g_S11 := (fz_X9_putSigns h_r10 T_S5.2.2.2.2.1).2.2
    refine ok_chk ((g_S11 x0 (lt18 ((congrFun kE_S5 x0).trans ((congrFun kE_S3 x0).trans r_x0)) (by decide))).1.trans ((congrFun kE_S5 x0).trans ((congrFun kE_S3 x0).trans r_x0))) ?_
    obtain ⟨b14, p_b14, k_b14, c_b14⟩ := T_11_1 T_S11 ((g_S11 x0 (lt18 ((congrFun kE_S5 x0).trans ((congrFun kE_S3 x0).trans r_x0)) (by decide))).1.trans ((congrFun kE_S5 x0).trans ((congrFun kE_S3 x0).trans r_x0)))
    have lo_b14 := M_11_1 T_S11 ((g_S11 x0 (lt18 ((congrFun kE_S5 x0).trans ((congrFun kE_S3 x0).trans r_x0)) (by decide))).1.trans ((congrFun kE_S5 x0).trans ((congrFun kE_S3 x0).trans r_x0))) p_b14
    have rl_b14 := rL_x3 lo_b14 c_b14
    refine ok_calR p_b14 ?_
    refine ok_chk k_b14 ?_
    have j4 := J_6_1 T_S11 k_b14
    obtain ⟨r15, h_r15, p_r15⟩ := roz (t_f_X6_size (x0 := b14) T_S11 k_b14)
    dsimp only at p_r15
    refine ok_calR h_r15 ?_
    have s_r15 : r15.toInt = (zI S11 1 b14).toInt := congrArg Int32.toInt p_r15.2
    refine ok_chk ⟨rfl, rfl⟩ ?_
    exact ok_ret ⟨T_S11, (rq_n T_S11 R_S11), trivial⟩
theorem t_d_X11_signs {SZ S : ZS} {x0 : Nat} {x1 : Int32} (hT : ZT S) (hR : RP SZ S) (r_x0 : zK S x0 = 11) : Ok (d_X11_signs x0 x1 S) (fun o => ZT o.2 ∧ RQ SZ o.1.1 o.2 ∧ True) := t_d_X11_signs_0 hT hR r_x0
theorem t_d_X11_node_0 {SZ S : ZS} {x0 : Nat} {x1 : Int32} {x2 : Int32} (hT : ZT S) (hR : RP SZ S) (r_x0 : zK S x0 = 11) : Ok (d_X11_node_0 x0 x1 x2 S) (fun o => ZT o.2 ∧ RQ SZ o.1.1 o.2 ∧ True) := by
  unfold d_X11_node_0
  refine ok_chk r_x0 ?_
  obtain ⟨b1, p_b1, k_b1⟩ := T_11_7 hT r_x0
  have lo_b1 := M_11_7 hT r_x0 p_b1
  refine ok_calR p_b1 ?_
  refine ok_chk k_b1 ?_
  obtain ⟨r2, h_r2, p_r2⟩ := roz (t_f_X1_has (x0 := b1) (x1 := x1) hT k_b1)
  dsimp only at p_r2
  refine ok_calR h_r2 ?_
  refine ok_chk ⟨rfl, rfl⟩ ?_
  refine ok_if (fun c5 => ?_) (fun c5 => ?_)
  ·
    replace c5 := ti_eqP (a := r2) (b := (0 : Int32)) c5 rfl (show (0 : Int32).toInt = 0 from rfl)
    exact ok_ret ⟨(zt_Q hT), (rq_q (k := 2) (by decide) hT hR), trivial⟩
  ·
    replace c5 := ti_eqN (a := r2) (b := (0 : Int32)) c5 rfl (show (0 : Int32).toInt = 0 from rfl)
    refine ok_chk r_x0 ?_
    refine ok_calR p_b1 ?_
    refine ok_chk k_b1 ?_
    obtain ⟨r4, h_r4, p_r4⟩ := roz (t_f_X1_at (x0 := b1) (x1 := x1) hT k_b1)
    dsimp only at p_r4
    refine ok_calR h_r4 ?_
    refine ok_chk ⟨rfl, rfl⟩ ?_
    refine ok_if (fun c6 => ?_) (fun c6 => ?_)
    ·
      replace c6 := ti_eqP (a := x2) (b := (0 : Int32)) c6 rfl (show (0 : Int32).toInt = 0 from rfl)
      refine ok_chk p_r4.1 ?_
      exact ok_ret ⟨hT, (rq_n hT hR), trivial⟩
    ·
      replace c6 := ti_eqN (a := x2) (b := (0 : Int32)) c6 rfl (show (0 : Int32).toInt = 0 from rfl)
      refine ok_if (fun c7 => ?_) (fun c7 => ?_)
      ·
        replace c7 := ti_eqP (a := x2) (b := (1 : Int32)) c7 rfl (show (1 : Int32).toInt = 1 from rfl)
        refine ok_chk p_r4.1 ?_
        exact ok_ret ⟨hT, (rq_n hT hR), trivial⟩
      ·
        replace c7 := ti_eqN (a := x2) (b := (1 : Int32)) c7 rfl (show (1 : Int32).toInt = 1 from rfl)
        refine ok_if (fun c8 => ?_) (fun c8 => ?_)
        ·
          replace c8 := ti_eqP (a := x2) (b := (2 : Int32)) c8 rfl (show (2 : Int32).toInt = 2 from rfl)
          refine ok_chk p_r4.1 ?_
          exact ok_ret ⟨hT, (rq_n hT hR), trivial⟩
        ·
          replace c8 := ti_eqN (a := x2) (b := (2 : Int32)) c8 rfl (show (2 : Int32).toInt = 2 from rfl)
          refine ok_if (fun c9 => ?_) (fun c9 => ?_)
          ·
            replace c9 := ti_eqP (a := x2) (b := (3 : Int32)) c9 rfl (show (3 : Int32).toInt = 3 from rfl)
            refine ok_chk p_r4.1 ?_
            exact ok_ret ⟨hT, (rq_n hT hR), trivial⟩
          ·
            replace c9 := ti_eqN (a := x2) (b := (3 : Int32)) c9 rfl (show (3 : Int32).toInt = 3 from rfl)
            refine ok_if (fun c10 => ?_) (fun c10 => ?_)
            ·
              replace c10 := ti_eqP (a := x2) (b := (4 : Int32)) c10 rfl (show (4 : Int32).toInt = 4 from rfl)
              refine ok_chk p_r4.1 ?_
              exact ok_ret ⟨hT, (rq_n hT hR), trivial⟩
            ·
              replace c10 := ti_eqN (a := x2) (b := (4 : Int32)) c10 rfl (show (4 : Int32).toInt = 4 from rfl)
              refine ok_if (fun c11 => ?_) (fun c11 => ?_)
              ·
                replace c11 := ti_eqP (a := x2) (b := (5 : Int32)) c11 rfl (show (5 : Int32).toInt = 5 from rfl)
                refine ok_chk p_r4.1 ?_
                obtain ⟨b5, p_b5, k_b5, c_b5⟩ := T_4_6 hT p_r4.1
                have rl_b5 := rL_0 c_b5
                refine ok_calR p_b5 ?_
                refine ok_chk k_b5 ?_
                have j12 := J61_0 hT k_b5 c_b5
                obtain ⟨r6, h_r6, p_r6⟩ := roz (t_f_X6_size (x0 := b5) hT k_b5)
                dsimp only at p_r6
                refine ok_calR h_r6 ?_
                have s_r6 : r6.toInt = (zI S 1 b5).toInt := congrArg Int32.toInt p_r6.2
                refine ok_chk ⟨rfl, rfl⟩ ?_
                exact ok_ret ⟨hT, (rq_n hT hR), trivial⟩
              ·
                replace c11 := ti_eqN (a := x2) (b := (5 : Int32)) c11 rfl (show (5 : Int32).toInt = 5 from rfl)
                exact ok_ret ⟨(zt_Q hT), (rq_q (k := 2) (by decide) hT hR), trivial⟩
theorem t_d_X11_node {SZ S : ZS} {x0 : Nat} {x1 : Int32} {x2 : Int32} (hT : ZT S) (hR : RP SZ S) (r_x0 : zK S x0 = 11) : Ok (d_X11_node x0 x1 x2 S) (fun o => ZT o.2 ∧ RQ SZ o.1.1 o.2 ∧ True) := t_d_X11_node_0 hT hR r_x0
theorem t_d_X11_mark_0 {SZ S : ZS} {x0 : Nat} {x1 : Int32} {x2 : Int32} (hT : ZT S) (hR : RP SZ S) (r_x0 : zK S x0 = 11) : Ok (d_X11_mark_0 x0 x1 x2 S) (fun o => ZT o.2 ∧ RQ SZ o.1.1 o.2 ∧ True) := by
  unfold d_X11_mark_0
  refine ok_chk r_x0 ?_
  obtain ⟨b1, p_b1, k_b1⟩ := T_11_7 hT r_x0
  have lo_b1 := M_11_7 hT r_x0 p_b1
  refine ok_calR p_b1 ?_
  refine ok_chk k_b1 ?_
  obtain ⟨r2, h_r2, p_r2⟩ := roz (t_f_X1_has (x0 := b1) (x1 := x1) hT k_b1)
  dsimp only at p_r2
  refine ok_calR h_r2 ?_
  refine ok_chk ⟨rfl, rfl⟩ ?_
  refine ok_if (fun c13 => ?_) (fun c13 => ?_)
  ·
    replace c13 := ti_eqP (a := r2) (b := (0 : Int32)) c13 rfl (show (0 : Int32).toInt = 0 from rfl)
    unfold d_X11_mark_30
    exact ok_ret ⟨(zt_Q hT), (rq_q (k := 2) (by decide) hT hR), trivial⟩
  ·
    replace c13 := ti_eqN (a := r2) (b := (0 : Int32)) c13 rfl (show (0 : Int32).toInt = 0 from rfl)
    refine ok_if (fun c14 => ?_) (fun c14 => ?_)
    ·
      replace c14 := ti_ltP (a := x2) (b := (0 : Int32)) c14 rfl (show (0 : Int32).toInt = 0 from rfl)
      unfold d_X11_mark_30
      exact ok_ret ⟨(zt_Q hT), (rq_q (k := 2) (by decide) hT hR), trivial⟩
    ·
      replace c14 := ti_ltN (a := x2) (b := (0 : Int32)) c14 rfl (show (0 : Int32).toInt = 0 from rfl)
      refine ok_chk r_x0 ?_
      refine ok_calR p_b1 ?_
      refine ok_chk k_b1 ?_
      obtain ⟨r4, h_r4, p_r4⟩ := roz (t_f_X1_at (x0 := b1) (x1 := x1) hT k_b1)
      dsimp only at p_r4
      refine ok_calR h_r4 ?_
      refine ok_chk ⟨rfl, rfl⟩ ?_
      refine ok_chk p_r4.1 ?_
      have j15 := J_4_4 hT p_r4.1
      refine ok_if (fun c16 => ?_) (fun c16 => ?_)
      ·
        replace c16 := ti_ltP (a := x2) (b := (zI S 4 r4)) c16 rfl rfl
        refine ok_chk r_x0 ?_
        refine ok_calR p_b1 ?_
        refine ok_chk k_b1 ?_
        obtain ⟨r6, h_r6, p_r6⟩ := roz (t_f_X1_at (x0 := b1) (x1 := x1) hT k_b1)
        dsimp only at p_r6
        refine ok_calR h_r6 ?_
        refine ok_chk ⟨rfl, rfl⟩ ?_
        refine ok_chk p_r6.1 ?_
        obtain ⟨r7, h_r7, p_r7⟩ := roz (t_f_X4_markAt (x0 := r6) (x1 := x2) hT p_r6.1)
        dsimp only at p_r7
        refine ok_calR h_r7 ?_
        refine ok_chk ⟨rfl, rfl⟩ ?_
        exact ok_ret ⟨hT, (rq_n hT hR), trivial⟩
      ·
        replace c16 := ti_ltN (a := x2) (b := (zI S 4 r4)) c16 rfl rfl
        unfold d_X11_mark_30
        exact ok_ret ⟨(zt_Q hT), (rq_q (k := 2) (by decide) hT hR), trivial⟩
theorem t_d_X11_mark {SZ S : ZS} {x0 : Nat} {x1 : Int32} {x2 : Int32} (hT : ZT S) (hR : RP SZ S) (r_x0 : zK S x0 = 11) : Ok (d_X11_mark x0 x1 x2 S) (fun o => ZT o.2 ∧ RQ SZ o.1.1 o.2 ∧ True) := t_d_X11_mark_0 hT hR r_x0
theorem t_d_X11_remark_0 {SZ S : ZS} {x0 : Nat} {x1 : Int32} {x2 : Int32} (hT : ZT S) (hR : RP SZ S) (r_x0 : zK S x0 = 11) : Ok (d_X11_remark_0 x0 x1 x2 S) (fun o => ZT o.2 ∧ RQ SZ o.1.1 o.2 ∧ True) := by
  unfold d_X11_remark_0
  refine ok_chk r_x0 ?_
  obtain ⟨b1, p_b1, k_b1⟩ := T_11_7 hT r_x0
  have lo_b1 := M_11_7 hT r_x0 p_b1
  refine ok_calR p_b1 ?_
  refine ok_chk k_b1 ?_
  obtain ⟨r2, h_r2, p_r2⟩ := roz (t_f_X1_has (x0 := b1) (x1 := x1) hT k_b1)
  dsimp only at p_r2
  refine ok_calR h_r2 ?_
  refine ok_chk ⟨rfl, rfl⟩ ?_
  refine ok_if (fun c17 => ?_) (fun c17 => ?_)
  ·
    replace c17 := ti_eqP (a := r2) (b := (0 : Int32)) c17 rfl (show (0 : Int32).toInt = 0 from rfl)
    unfold d_X11_remark_33
    exact ok_ret ⟨(zt_Q hT), (rq_q (k := 2) (by decide) hT hR), trivial⟩
  ·
    replace c17 := ti_eqN (a := r2) (b := (0 : Int32)) c17 rfl (show (0 : Int32).toInt = 0 from rfl)
    refine ok_if (fun c18 => ?_) (fun c18 => ?_)
    ·
      replace c18 := ti_ltP (a := x2) (b := (0 : Int32)) c18 rfl (show (0 : Int32).toInt = 0 from rfl)
      unfold d_X11_remark_33
      exact ok_ret ⟨(zt_Q hT), (rq_q (k := 2) (by decide) hT hR), trivial⟩
    ·
      replace c18 := ti_ltN (a := x2) (b := (0 : Int32)) c18 rfl (show (0 : Int32).toInt = 0 from rfl)
      refine ok_chk r_x0 ?_
      refine ok_calR p_b1 ?_
      refine ok_chk k_b1 ?_
      obtain ⟨r4, h_r4, p_r4⟩ := roz (t_f_X1_at (x0 := b1) (x1 := x1) hT k_b1)
      dsimp only at p_r4
      refine ok_calR h_r4 ?_
      refine ok_chk ⟨rfl, rfl⟩ ?_
      refine ok_chk p_r4.1 ?_
      obtain ⟨b5, p_b5, k_b5, c_b5⟩ := T_4_6 hT p_r4.1
      have rl_b5 := rL_0 c_b5
      refine ok_calR p_b5 ?_
      refine ok_chk k_b5 ?_
      have j19 := J61_0 hT k_b5 c_b5
      obtain ⟨r6, h_r6, p_r6⟩ := roz (t_f_X6_size (x0 := b5) hT k_b5)
      dsimp only at p_r6
      refine ok_calR h_r6 ?_
      have s_r6 : r6.toInt = (zI S 1 b5).toInt := congrArg Int32.toInt p_r6.2
      refine ok_chk ⟨rfl, rfl⟩ ?_
      refine ok_if (fun c20 => ?_) (fun c20 => ?_)
      ·
        replace c20 := ti_ltP (a := x2) (b := r6) c20 rfl rfl
        refine ok_chk r_x0 ?_
        refine ok_calR p_b1 ?_
        refine ok_chk k_b1 ?_
        obtain ⟨r8, h_r8, p_r8⟩ := roz (t_f_X1_at (x0 := b1) (x1 := x1) hT k_b1)
        dsimp only at p_r8
        refine ok_calR h_r8 ?_
        refine ok_chk ⟨rfl, rfl⟩ ?_
        refine ok_chk p_r8.1 ?_
        obtain ⟨b9, p_b9, k_b9, c_b9⟩ := T_4_6 hT p_r8.1
        have rl_b9 := rL_0 c_b9
        refine ok_calR p_b9 ?_
        refine ok_chk k_b9 ?_
        have j21 := J61_0 hT k_b9 c_b9
        obtain ⟨r10, h_r10, p_r10⟩ := roz (t_f_X6_at (x0 := b9) (x1 := x2) hT k_b9)
        dsimp only at p_r10
        refine ok_calR h_r10 ?_
        refine ok_chk ⟨rfl, rfl⟩ ?_
        exact ok_ret ⟨hT, (rq_n hT hR), trivial⟩
      ·
        replace c20 := ti_ltN (a := x2) (b := r6) c20 rfl rfl
        unfold d_X11_remark_33
        exact ok_ret ⟨(zt_Q hT), (rq_q (k := 2) (by decide) hT hR), trivial⟩
theorem t_d_X11_remark {SZ S : ZS} {x0 : Nat} {x1 : Int32} {x2 : Int32} (hT : ZT S) (hR : RP SZ S) (r_x0 : zK S x0 = 11) : Ok (d_X11_remark x0 x1 x2 S) (fun o => ZT o.2 ∧ RQ SZ o.1.1 o.2 ∧ True) := t_d_X11_remark_0 hT hR r_x0
theorem t_d_X11_man_0 {SZ S : ZS} {x0 : Nat} {x1 : Int32} (hT : ZT S) (hR : RP SZ S) (r_x0 : zK S x0 = 11) : Ok (d_X11_man_0 x0 x1 S) (fun o => ZT o.2 ∧ RQ SZ o.1.1 o.2 ∧ True) := by
  unfold d_X11_man_0
  refine ok_if (fun c22 => ?_) (fun c22 => ?_)
  ·
    replace c22 := ti_ltP (a := x1) (b := (0 : Int32)) c22 rfl (show (0 : Int32).toInt = 0 from rfl)
    unfold d_X11_man_10
    exact ok_ret ⟨(zt_Q hT), (rq_q (k := 2) (by decide) hT hR), trivial⟩
  ·
    replace c22 := ti_ltN (a := x1) (b := (0 : Int32)) c22 rfl (show (0 : Int32).toInt = 0 from rfl)
    refine ok_if (fun c23 => ?_) (fun c23 => ?_)
    ·
      replace c23 := ti_ltP (a := x1) (b := (64 : Int32)) c23 rfl (show (64 : Int32).toInt = 64 from rfl)
      refine ok_chk r_x0 ?_
      obtain ⟨b1, p_b1, k_b1⟩ := T_11_9 hT r_x0
      refine ok_calR p_b1 ?_
      refine ok_chk k_b1 ?_
      obtain ⟨b2, p_b2, k_b2, n_b2⟩ := T_0_0 hT k_b1
      refine ok_calR p_b2 ?_
      refine ok_chk k_b2 ?_
      refine ok_chk (ti_inN (v := x1) (n := 64) n_b2 (by omega) (by omega)) ?_
      refine ok_bnd (fun v3 e24 => ?_)
      exact ok_ret ⟨hT, (rq_n hT hR), trivial⟩
    ·
      replace c23 := ti_ltN (a := x1) (b := (64 : Int32)) c23 rfl (show (64 : Int32).toInt = 64 from rfl)
      unfold d_X11_man_10
      exact ok_ret ⟨(zt_Q hT), (rq_q (k := 2) (by decide) hT hR), trivial⟩
theorem t_d_X11_man {SZ S : ZS} {x0 : Nat} {x1 : Int32} (hT : ZT S) (hR : RP SZ S) (r_x0 : zK S x0 = 11) : Ok (d_X11_man x0 x1 S) (fun o => ZT o.2 ∧ RQ SZ o.1.1 o.2 ∧ True) := t_d_X11_man_0 hT hR r_x0
theorem t_d_X11_addMark_0 {SZ S : ZS} {x0 : Nat} {x1 : Int32} (hT : ZT S) (hR : RP SZ S) (r_x0 : zK S x0 = 11) : Ok (d_X11_addMark_0 x0 x1 S) (fun o => ZT o.2 ∧ RQ SZ o.1.1 o.2 ∧ True) := by
  unfold d_X11_addMark_0
  refine ok_if (fun c25 => ?_) (fun c25 => ?_)
  ·
    replace c25 := ti_ltP (a := x1) (b := (0 : Int32)) c25 rfl (show (0 : Int32).toInt = 0 from rfl)
    unfold d_X11_addMark_11
    exact ok_ret ⟨(zt_Q hT), (rq_q (k := 1) (by decide) hT hR), trivial⟩
  ·
    replace c25 := ti_ltN (a := x1) (b := (0 : Int32)) c25 rfl (show (0 : Int32).toInt = 0 from rfl)
    refine ok_if (fun c26 => ?_) (fun c26 => ?_)
    ·
      replace c26 := ti_leP (a := x1) (b := (255 : Int32)) c26 rfl (show (255 : Int32).toInt = 255 from rfl)
      refine ok_chk r_x0 ?_
      obtain ⟨b1, p_b1, k_b1⟩ := T_11_7 hT r_x0
      have lo_b1 := M_11_7 hT r_x0 p_b1
      refine ok_calR p_b1 ?_
      refine ok_chk r_x0 ?_
      refine ok_chk k_b1 ?_
      obtain ⟨r2, h_r2, p_r2⟩ := roz (t_f_X1_at (x0 := b1) (x1 := (zI S 8 x0)) hT k_b1)
      dsimp only at p_r2
      refine ok_calR h_r2 ?_
      refine ok_chk ⟨rfl, rfl⟩ ?_
      refine ok_chk r_x0 ?_
      have j27 := J_11_8 hT r_x0
      refine ok_if (fun c28 => ?_) (fun c28 => ?_)
      ·
        replace c28 := ti_eqP (a := (zI S 8 x0)) (b := (0 : Int32)) c28 rfl (show (0 : Int32).toInt = 0 from rfl)
        unfold d_X11_addMark_48
        exact ok_ret ⟨(zt_Q hT), (rq_q (k := 4) (by decide) hT hR), trivial⟩
      ·
        replace c28 := ti_eqN (a := (zI S 8 x0)) (b := (0 : Int32)) c28 rfl (show (0 : Int32).toInt = 0 from rfl)
        refine ok_chk p_r2.1 ?_
        have j29 := J_4_4 hT p_r2.1
        refine ok_if (fun c30 => ?_) (fun c30 => ?_)
        ·
          replace c30 := ti_ltP (a := (zI S 4 r2)) (b := (4 : Int32)) c30 rfl (show (4 : Int32).toInt = 4 from rfl)
          refine ok_chk p_r2.1 ?_
          obtain ⟨⟨r3, S3⟩, h_r3, T_S3, A_S3, -⟩ := t_f_X4_putMark (x0 := r2) (x1 := x1) (SZ := S) hT (a7_0 S) p_r2.1 (by omega)
          replace T_S3 : ZT S3 := T_S3
          replace A_S3 : A7 S S3 := A_S3
          refine ok_calR h_r3 ?_
          have q_S3 := fq_X4_putMark h_r3
          have kE_S3 : zK S3 = zK S := q_S3.2.2.1
          have nE_S3 : zN S3 = zN S := q_S3.2.2.2.1
          have R_S3 : RP SZ S3 := rp_f hR hT q_S3 (fz_X4_putMark h_r3) (by decide) A_S3
          refine ok_chk ⟨q_S3.1, q_S3.2.1⟩ ?_
          refine ok_chk ((congrFun kE_S3 r2).trans p_r2.1) ?_
          exact ok_ret ⟨T_S3, (rq_n T_S3 R_S3), trivial⟩
        ·
          replace c30 := ti_ltN (a := (zI S 4 r2)) (b := (4 : Int32)) c30 rfl (show (4 : Int32).toInt = 4 from rfl)
          unfold d_X11_addMark_48
          exact ok_ret ⟨(zt_Q hT), (rq_q (k := 4) (by decide) hT hR), trivial⟩
    ·
      replace c26 := ti_leN (a := x1) (b := (255 : Int32)) c26 rfl (show (255 : Int32).toInt = 255 from rfl)
      unfold d_X11_addMark_11
      exact ok_ret ⟨(zt_Q hT), (rq_q (k := 1) (by decide) hT hR), trivial⟩
theorem t_d_X11_addMark {SZ S : ZS} {x0 : Nat} {x1 : Int32} (hT : ZT S) (hR : RP SZ S) (r_x0 : zK S x0 = 11) : Ok (d_X11_addMark x0 x1 S) (fun o => ZT o.2 ∧ RQ SZ o.1.1 o.2 ∧ True) := t_d_X11_addMark_0 hT hR r_x0
theorem t_d_X11_end_0 {SZ S : ZS} {x0 : Nat} {x1 : Int32} (hT : ZT S) (hR : RP SZ S) (r_x0 : zK S x0 = 11) : Ok (d_X11_end_0 x0 x1 S) (fun o => ZT o.2 ∧ RQ SZ o.1.1 o.2 ∧ True) := by
  unfold d_X11_end_0
  refine ok_if (fun c31 => ?_) (fun c31 => ?_)
  ·
    replace c31 := ti_ltP (a := x1) (b := (0 : Int32)) c31 rfl (show (0 : Int32).toInt = 0 from rfl)
    unfold d_X11_end_9
    exact ok_ret ⟨(zt_Q hT), (rq_q (k := 1) (by decide) hT hR), trivial⟩
  ·
    replace c31 := ti_ltN (a := x1) (b := (0 : Int32)) c31 rfl (show (0 : Int32).toInt = 0 from rfl)
    refine ok_if (fun c32 => ?_) (fun c32 => ?_)
    ·
      replace c32 := ti_ltP (a := x1) (b := (4 : Int32)) c32 rfl (show (4 : Int32).toInt = 4 from rfl)
      refine ok_chk r_x0 ?_
      obtain ⟨b1, p_b1, k_b1⟩ := T_11_7 hT r_x0
      have lo_b1 := M_11_7 hT r_x0 p_b1
      refine ok_calR p_b1 ?_
      refine ok_chk k_b1 ?_
      refine ok_bnd (fun S2 e33 => ?_)
      have T_S2 : ZT S2 := e33.symm ▸ zt_W hT k_b1 (by decide) rfl
      have kE_S2 : zK S2 = zK S := by rw [e33]; rfl
      have nE_S2 : zN S2 = zN S := by rw [e33]; rfl
      have R_S2 : RP SZ S2 := rp_I hR hT k_b1 e33 (by decide)
      exact ok_ret ⟨T_S2, (rq_n T_S2 R_S2), trivial⟩
    ·
      replace c32 := ti_ltN (a := x1) (b := (4 : Int32)) c32 rfl (show (4 : Int32).toInt = 4 from rfl)
      unfold d_X11_end_9
      exact ok_ret ⟨(zt_Q hT), (rq_q (k := 1) (by decide) hT hR), trivial⟩
theorem t_d_X11_end {SZ S : ZS} {x0 : Nat} {x1 : Int32} (hT : ZT S) (hR : RP SZ S) (r_x0 : zK S x0 = 11) : Ok (d_X11_end x0 x1 S) (fun o => ZT o.2 ∧ RQ SZ o.1.1 o.2 ∧ True) := t_d_X11_end_0 hT hR r_x0
theorem t_d_X11_tag_0 {SZ S : ZS} {x0 : Nat} {x1 : Int32} {x2 : Int32} {x3 : Int32} (hT : ZT S) (hR : RP SZ S) (r_x0 : zK S x0 = 11) : Ok (d_X11_tag_0 x0 x1 x2 x3 S) (fun o => ZT o.2 ∧ RQ SZ o.1.1 o.2 ∧ True) := by
  unfold d_X11_tag_0
  refine ok_if (fun c34 => ?_) (fun c34 => ?_)
  ·
    replace c34 := ti_ltP (a := x1) (b := (0 : Int32)) c34 rfl (show (0 : Int32).toInt = 0 from rfl)
    unfold d_X11_tag_19
    exact ok_ret ⟨(zt_Q hT), (rq_q (k := 2) (by decide) hT hR), trivial⟩
  ·
    replace c34 := ti_ltN (a := x1) (b := (0 : Int32)) c34 rfl (show (0 : Int32).toInt = 0 from rfl)
    refine ok_chk r_x0 ?_
    obtain ⟨b1, p_b1, k_b1⟩ := T_11_7 hT r_x0
    have lo_b1 := M_11_7 hT r_x0 p_b1
    refine ok_calR p_b1 ?_
    refine ok_chk k_b1 ?_
    have j35 := J_1_5 hT k_b1
    refine ok_if (fun c36 => ?_) (fun c36 => ?_)
    ·
      replace c36 := ti_leP (a := (zI S 5 b1)) (b := x1) c36 rfl rfl
      unfold d_X11_tag_19
      exact ok_ret ⟨(zt_Q hT), (rq_q (k := 2) (by decide) hT hR), trivial⟩
    ·
      replace c36 := ti_leN (a := (zI S 5 b1)) (b := x1) c36 rfl rfl
      refine ok_if (fun c37 => ?_) (fun c37 => ?_)
      ·
        replace c37 := ti_leP (a := (0 : Int32)) (b := x3) c37 (show (0 : Int32).toInt = 0 from rfl) rfl
        refine ok_chk r_x0 ?_
        refine ok_calR p_b1 ?_
        refine ok_chk k_b1 ?_
        obtain ⟨r4, h_r4, p_r4⟩ := roz (t_d_X1_tagAt (x0 := b1) (x1 := x1) hT k_b1 (by omega))
        dsimp only at p_r4
        refine ok_cal2R h_r4 ?_
        refine ok_if (fun c38 => ?_) (fun c38 => ?_)
        ·
          replace c38 := ti_eqP (a := x2) (b := (0 : Int32)) c38 rfl (show (0 : Int32).toInt = 0 from rfl)
          refine ok_chk p_r4 ?_
          obtain ⟨b8, p_b8, k_b8, c_b8⟩ := T_10_0 hT p_r4
          have rl_b8 := rL_0 c_b8
          refine ok_calR p_b8 ?_
          refine ok_chk k_b8 ?_
          have j39 := J61_0 hT k_b8 c_b8
          obtain ⟨r9, h_r9, p_r9⟩ := roz (t_f_X6_at (x0 := b8) (x1 := x3) hT k_b8)
          dsimp only at p_r9
          refine ok_calR h_r9 ?_
          refine ok_chk ⟨rfl, rfl⟩ ?_
          unfold d_X11_tag_65
          exact ok_ret ⟨hT, (rq_n hT hR), trivial⟩
        ·
          replace c38 := ti_eqN (a := x2) (b := (0 : Int32)) c38 rfl (show (0 : Int32).toInt = 0 from rfl)
          refine ok_chk p_r4 ?_
          obtain ⟨b10, p_b10, k_b10, c_b10⟩ := T_10_1 hT p_r4
          have rl_b10 := rL_0 c_b10
          refine ok_calR p_b10 ?_
          refine ok_chk k_b10 ?_
          have j40 := J61_0 hT k_b10 c_b10
          obtain ⟨r11, h_r11, p_r11⟩ := roz (t_f_X6_at (x0 := b10) (x1 := x3) hT k_b10)
          dsimp only at p_r11
          refine ok_calR h_r11 ?_
          refine ok_chk ⟨rfl, rfl⟩ ?_
          unfold d_X11_tag_65
          exact ok_ret ⟨hT, (rq_n hT hR), trivial⟩
      ·
        replace c37 := ti_leN (a := (0 : Int32)) (b := x3) c37 (show (0 : Int32).toInt = 0 from rfl) rfl
        unfold d_X11_tag_19
        exact ok_ret ⟨(zt_Q hT), (rq_q (k := 2) (by decide) hT hR), trivial⟩
theorem t_d_X11_tag {SZ S : ZS} {x0 : Nat} {x1 : Int32} {x2 : Int32} {x3 : Int32} (hT : ZT S) (hR : RP SZ S) (r_x0 : zK S x0 = 11) : Ok (d_X11_tag x0 x1 x2 x3 S) (fun o => ZT o.2 ∧ RQ SZ o.1.1 o.2 ∧ True) := t_d_X11_tag_0 hT hR r_x0
theorem t_d_X11_go_0 {SZ S : ZS} {x0 : Nat} {x1 : Int32} (hT : ZT S) (hR : RP SZ S) (r_x0 : zK S x0 = 11) : Ok (d_X11_go_0 x0 x1 S) (fun o => ZT o.2 ∧ RQ SZ o.1.1 o.2 ∧ True) := by
  unfold d_X11_go_0
  refine ok_chk r_x0 ?_
  obtain ⟨b1, p_b1, k_b1⟩ := T_11_7 hT r_x0
  have lo_b1 := M_11_7 hT r_x0 p_b1
  refine ok_calR p_b1 ?_
  refine ok_chk k_b1 ?_
  obtain ⟨r2, h_r2, p_r2⟩ := roz (t_f_X1_has (x0 := b1) (x1 := x1) hT k_b1)
  dsimp only at p_r2
  refine ok_calR h_r2 ?_
  have j9 := J_1_3 hT k_b1
  refine ok_chk ⟨rfl, rfl⟩ ?_
  refine ok_if (fun c41 => ?_) (fun c41 => ?_)
  ·
    replace c41 := ti_eqP (a := r2) (b := (0 : Int32)) c41 rfl (show (0 : Int32).toInt = 0 from rfl)
    exact ok_ret ⟨(zt_Q hT), (rq_q (k := 2) (by decide) hT hR), trivial⟩
  ·
    replace c41 := ti_eqN (a := r2) (b := (0 : Int32)) c41 rfl (show (0 : Int32).toInt = 0 from rfl)
    refine ok_chk r_x0 ?_
    refine ok_bnd (fun S3 e42 => ?_)
    have T_S3 : ZT S3 := e42.symm ▸ zt_I hT r_x0 (by decide) (show (0 : Int) ≤ x1.toInt ∧ x1.toInt ≤ (300 : Int) from (by omega))
    have kE_S3 : zK S3 = zK S := by rw [e42]; rfl
    have nE_S3 : zN S3 = zN S := by rw [e42]; rfl
    have R_S3 : RP SZ S3 := rp_I hR hT r_x0 e42 (by decide)
    refine ok_chk ((congrFun kE_S3 x0).trans r_x0) ?_
    obtain ⟨b4, p_b4, k_b4⟩ := T_11_7 T_S3 ((congrFun kE_S3 x0).trans r_x0)
    have lo_b4 := M_11_7 T_S3 ((congrFun kE_S3 x0).trans r_x0) p_b4
    refine ok_calR p_b4 ?_
    refine ok_chk ((congrFun kE_S3 x0).trans r_x0) ?_
    obtain ⟨b5, p_b5, k_b5⟩ := T_11_9 T_S3 ((congrFun kE_S3 x0).trans r_x0)
    refine ok_calR p_b5 ?_
    refine ok_chk k_b4 ?_
    obtain ⟨⟨r6, S6⟩, h_r6, T_S6, A_S6, -⟩ := t_f_X1_standAt (x0 := b4) (x1 := x1) (x2 := b5) (SZ := S3) T_S3 (a7_0 S3) k_b4 k_b5
    replace T_S6 : ZT S6 := T_S6
    replace A_S6 : A7 S3 S6 := A_S6
    refine ok_calR h_r6 ?_
    have q_S6 := fq_X1_standAt h_r6
    have kE_S6 : zK S6 = zK S3 := q_S6.2.2.1
    have nE_S6 : zN S6 = zN S3 := q_S6.2.2.2.1
    have R_S6 : RP SZ S6 := rp_f R_S3 T_S3 q_S6 (fz_X1_standAt h_r6) (by decide) A_S6
    refine ok_chk ⟨q_S6.1, q_S6.2.1⟩ ?_
    exact ok_ret ⟨T_S6, (rq_n T_S6 R_S6), trivial⟩
theorem t_d_X11_go {SZ S : ZS} {x0 : Nat} {x1 : Int32} (hT : ZT S) (hR : RP SZ S) (r_x0 : zK S x0 = 11) : Ok (d_X11_go x0 x1 S) (fun o => ZT o.2 ∧ RQ SZ o.1.1 o.2 ∧ True) := t_d_X11_go_0 hT hR r_x0
