theorem zt_T1 {S : ZS} {a : Nat} {v : Int32} (hT : ZT S) (hk : zK S a = 1) (h1 : v.toInt = (zI S 5 a).toInt + 1) (h2 : (zI S 5 a).toInt < 8) (hq : ∀ b, zP S 4 a = some b → ∃ c, zB S b (zI S 5 a).toNatClampNeg = some c) : ZT (zsI S 5 a v) := by
  have j := J_1_5 hT hk
  obtain ⟨g1, g2, g3, g4, g5, g6, g7, g8, g9, g10, g11⟩ := hT
  refine ⟨g1, ?_, ?_, g4, g5, g6, g7, g8, ?_, g10, g11⟩
  · intro c hc
    have e : zI (zsI S 5 a v) 1 c = zI S 1 c := by
      show va_up (zI S) 5 (va_up (zI S 5) a v) 1 c = _
      rw [va_up_ne _ _ (by decide)]
    rw [e]
    exact g2 c hc
  · intro c i hc
    by_cases e : i = 5 ∧ c = a
    · have hka : zK (zsI S 5 a v) a = 1 := hk
      rw [e.1, e.2, hka, zI_self]
      show (0 : Int) ≤ v.toInt ∧ v.toInt ≤ (8 : Int)
      omega
    · have e2 : zI (zsI S 5 a v) i c = zI S i c := by
        show va_up (zI S) 5 (va_up (zI S 5) a v) i c = _
        by_cases e1 : i = 5
        · rw [e1, va_up_self, va_up_ne _ _ (fun h => e ⟨e1, h⟩)]
        · rw [va_up_ne _ _ e1]
      rw [e2]; exact g3 c i hc
  · intro c hc b hb i hi
    by_cases e : c = a
    · rw [e, zI_self] at hi
      rw [e] at hb
      by_cases e3 : (i : Int) < (zI S 5 a).toInt
      · exact g9 a hk b hb i e3
      · have hn : (zI S 5 a).toNatClampNeg = (zI S 5 a).toInt.toNat := rfl
        have ei : i = (zI S 5 a).toNatClampNeg := by omega
        rw [ei]; exact hq b hb
    · rw [zI_ne e] at hi
      exact g9 c hc b hb i hi
theorem t_d_X1_putTag_38 {SZ S : ZS} {x0 : Nat} {x1 : Nat} {x2 : Nat} (hT : ZT S) (hR : RP SZ S) (r_x0 : zK S x0 = 1) (r_x1 : zK S x1 = 6) (r_x2 : zK S x2 = 6) (q0 : (zI S 1 x1).toInt ≤ 200) (q1 : (zI S 1 x2).toInt ≤ 200) (q2 : 1 ≤ rc x2) (q3 : (zI S 5 x0).toInt < 8) (q4 : ∀ b, zP S 4 x0 = some b → ∃ c, zB S b (zI S 5 x0).toNatClampNeg = some c) : Ok (d_X1_putTag_38 x0 x1 x2 S) (fun o => ZT o.2 ∧ RP SZ o.2 ∧ True) := by
  unfold d_X1_putTag_38
  have j1 := J_1_5 hT r_x0
  refine ok_chk r_x0 ?_
  refine ok_bnd (fun v1 e2 => ?_)
  have t_v1 : v1.toInt = (zI S 5 x0).toInt + 1 := ti_add e2 rfl (show (1 : Int32).toInt = 1 from rfl) (by omega) (by omega)
  refine ok_chk r_x0 ?_
  refine ok_bnd (fun S2 e3 => ?_)
  have T_S2 : ZT S2 := e3.symm ▸ zt_T1 hT r_x0 (by omega) (by omega) q4
  have kE_S2 : zK S2 = zK S := by rw [e3]; rfl
  have nE_S2 : zN S2 = zN S := by rw [e3]; rfl
  have R_S2 : RP SZ S2 := rp_I hR hT r_x0 e3 (by decide)
  have : (zI S2 5 x0).toInt = v1.toInt := by rw [e3]; exact (congrArg Int32.toInt (zI_self _ _ _ _)).trans rfl
  have i2 : zI S2 1 = zI S 1 := by rw [e3]; rfl
  have ix1 : (zI S2 1 x1).toInt = (zI S 1 x1).toInt := by rw [i2]
  have ix2 : (zI S2 1 x2).toInt = (zI S 1 x2).toInt := by rw [i2]
  refine ok_chk ((congrFun kE_S2 x0).trans r_x0) ?_
  refine ok_bnd (fun v3 e4 => ?_)
  have j5 := J_1_5 T_S2 ((congrFun kE_S2 x0).trans r_x0)
  have t_v3 : v3.toInt = (zI S2 5 x0).toInt - 1 := ti_sub e4 rfl (show (1 : Int32).toInt = 1 from rfl) (by omega) (by omega)
  refine ok_chk ((congrFun kE_S2 x0).trans r_x0) ?_
  obtain ⟨r5, h_r5, p_r5⟩ := roz (t_d_X1_tagAt (x0 := x0) (x1 := v3) T_S2 ((congrFun kE_S2 x0).trans r_x0) (by omega))
  dsimp only at p_r5
  refine ok_cal2R h_r5 ?_
  refine ok_chk p_r5 ?_
  obtain ⟨b9, p_b9, k_b9, c_b9⟩ := T_10_0 T_S2 p_r5
  have rl_b9 := rL_0 c_b9
  refine ok_calR p_b9 ?_
  refine ok_chk k_b9 ?_
  have j6 := J61_0 T_S2 k_b9 c_b9
  have j7 := J_6_1 T_S2 ((congrFun kE_S2 x1).trans r_x1)
  obtain ⟨⟨r11, S12⟩, h_r11, T_S12, B_S12, p_r11_0⟩ := t_d_X6_copyFrom (x0 := b9) (x1 := x1) (SZ := S2) T_S2 (rp_0 S2) k_b9 ((congrFun kE_S2 x1).trans r_x1) (Or.inr (by omega)) (by omega)
  replace T_S12 : ZT S12 := T_S12
  replace B_S12 : RP S2 S12 := B_S12
  have R_S12 : RP SZ S12 := rp_t R_S2 B_S12
  dsimp only at p_r11_0
  refine ok_cal2R h_r11 ?_
  have g_S12 := (fz_X6_copyFrom h_r11 T_S2.2.2.2.2.1).2.2
  have : (zI S12 5 x0).toInt = (zI S2 5 x0).toInt := congrArg Int32.toInt ((g_S12 x0 (lt18 ((congrFun kE_S2 x0).trans r_x0) (by decide))).2.2.1 5 (by rw [((congrFun kE_S2 x0).trans r_x0)]; decide))
  have ix3 : (zI S12 1 x2).toInt = (zI S2 1 x2).toInt := congrArg Int32.toInt (p_r11_0 x2 (fun h => by rw [h] at q2; omega))
  refine ok_chk ((g_S12 x0 (lt18 ((congrFun kE_S2 x0).trans r_x0) (by decide))).1.trans ((congrFun kE_S2 x0).trans r_x0)) ?_
  refine ok_bnd (fun v15 e8 => ?_)
  have j9 := J_1_5 T_S12 ((g_S12 x0 (lt18 ((congrFun kE_S2 x0).trans r_x0) (by decide))).1.trans ((congrFun kE_S2 x0).trans r_x0))
  have t_v15 : v15.toInt = (zI S12 5 x0).toInt - 1 := ti_sub e8 rfl (show (1 : Int32).toInt = 1 from rfl) (by omega) (by omega)
  refine ok_chk ((g_S12 x0 (lt18 ((congrFun kE_S2 x0).trans r_x0) (by decide))).1.trans ((congrFun kE_S2 x0).trans r_x0)) ?_
  obtain ⟨r17, h_r17, p_r17⟩ := roz (t_d_X1_tagAt (x0 := x0) (x1 := v15) T_S12 ((g_S12 x0 (lt18 ((congrFun kE_S2 x0).trans r_x0) (by decide))).1.trans ((congrFun kE_S2 x0).trans r_x0)) (by omega))
  dsimp only at p_r17
  refine ok_cal2R h_r17 ?_
  refine ok_chk p_r17 ?_
  obtain ⟨b21, p_b21, k_b21, c_b21⟩ := T_10_1 T_S12 p_r17
  have rl_b21 := rL_0 c_b21
  refine ok_calR p_b21 ?_
  refine ok_chk k_b21 ?_
  have j10 := J61_0 T_S12 k_b21 c_b21
  have j11 := J_6_1 T_S12 ((g_S12 x2 (lt18 ((congrFun kE_S2 x2).trans r_x2) (by decide))).1.trans ((congrFun kE_S2 x2).trans r_x2))
  obtain ⟨⟨r23, S24⟩, h_r23, T_S24, B_S24, p_r23_0⟩ := t_d_X6_copyFrom (x0 := b21) (x1 := x2) (SZ := S12) T_S12 (rp_0 S12) k_b21 ((g_S12 x2 (lt18 ((congrFun kE_S2 x2).trans r_x2) (by decide))).1.trans ((congrFun kE_S2 x2).trans r_x2)) (Or.inr (by omega)) (by omega)
  replace T_S24 : ZT S24 := T_S24
  replace B_S24 : RP S12 S24 := B_S24
  have R_S24 : RP SZ S24 := rp_t R_S12 B_S24
  dsimp only at p_r23_0
  refine ok_cal2R h_r23 ?_
  have g_S24 := (fz_X6_copyFrom h_r23 T_S12.2.2.2.2.1).2.2
  have : (zI S24 5 x0).toInt = (zI S12 5 x0).toInt := congrArg Int32.toInt ((g_S24 x0 (lt18 ((g_S12 x0 (lt18 ((congrFun kE_S2 x0).trans r_x0) (by decide))).1.trans ((congrFun kE_S2 x0).trans r_x0)) (by decide))).2.2.1 5 (by rw [((g_S12 x0 (lt18 ((congrFun kE_S2 x0).trans r_x0) (by decide))).1.trans ((congrFun kE_S2 x0).trans r_x0))]; decide))
  exact ok_ret ⟨T_S24, R_S24, trivial⟩
theorem t_d_X1_putTag_0 {SZ S : ZS} {x0 : Nat} {x1 : Nat} {x2 : Nat} (hT : ZT S) (hR : RP SZ S) (r_x0 : zK S x0 = 1) (r_x1 : zK S x1 = 6) (r_x2 : zK S x2 = 6) (q0 : (zI S 1 x1).toInt ≤ 200) (q1 : (zI S 1 x2).toInt ≤ 200) (q2 : 1 ≤ rc x2) : Ok (d_X1_putTag_0 x0 x1 x2 S) (fun o => ZT o.2 ∧ RP SZ o.2 ∧ True) := by
  unfold d_X1_putTag_0
  have j := J_1_5 hT r_x0
  refine ok_chk r_x0 (ok_if (fun c => ?_) (fun c => ok_ret ⟨hT, hR, trivial⟩))
  replace c := ti_ltP (a := zI S 5 x0) (b := 8) c rfl rfl
  have z : (8 : Int32).toInt = 8 := rfl
  obtain ⟨b, p, k, n⟩ := T_1_4 hT r_x0
  refine ok_chk r_x0 (ok_calR p (ok_chk r_x0 (ok_chk k (ok_chk (ti_inN (v := zI S 5 x0) (n := 8) n (by omega) (by omega)) (ok_bnd (fun v2 e2 => ?_))))))
  have hi : (zI S 5 x0).toNatClampNeg < 8 := ti_cl (v := zI S 5 x0) (by omega) (by omega)
  refine ok_opt (fun hv => ?_) (fun b3 hv => ?_)
  · rw [e2] at hv
    obtain ⟨T', R'⟩ := rp_tag (i := (zI S 5 x0).toNatClampNeg) hT k hv hi
    obtain ⟨f1, f2, f3, f4, -⟩ := tg_f S
    obtain ⟨g1, g2, g3, -⟩ := tg_e S
    have nN : ∀ a, zK S a < 18 → ¬ (a = zt S ∨ a = zt S + 1 ∨ a = zt S + 2) := fun a ha h => by
      have := hT.2.2.2.2.1 a (by omega)
      omega
    have kb : zK (zTg S) b = 17 := by rw [f1 b (nN b (by omega))]; exact k
    have nb : zN (zTg S) b = 8 := by rw [g1]; exact n
    refine ok_chk r_x0 (ok_calR p (ok_chk r_x0 (ok_bnd (fun q5 e5 => ok_bnd (fun S6 e6 => ?_)))))
    rw [e5] at e6 ⊢
    rw [e6]
    refine ok_cal2R (init10 S) (ok_chk kb (ok_chk f4 (ok_chk (ti_inN (v := zI S 5 x0) (n := 8) nb (by omega) (by omega)) (ok_bnd (fun S14 e14 => ?_)))))
    have kk : ∀ a, zK S a < 18 → zK S14 a = zK S a := fun a ha => by
      rw [e14]
      show zK (zTg S) a = _
      exact f1 a (nN a ha)
    have ii : ∀ a i, zK S a < 18 → zI S14 i a = zI S i a := fun a i ha => by
      rw [e14]
      show zI (zTg S) i a = _
      exact f2 a i (nN a ha)
    have l0 := ii x0 5 (by omega)
    refine t_d_X1_putTag_38 (SZ := SZ) (by rw [e14]; exact T') (by rw [e14]; exact rp_t hR R') ((kk x0 (by omega)).trans r_x0) ((kk x1 (by omega)).trans r_x1) ((kk x2 (by omega)).trans r_x2) (by rw [ii x1 1 (by omega)]; exact q0) (by rw [ii x2 1 (by omega)]; exact q1) q2 (by rw [l0]; omega) (fun b' hb' => ?_)
    have hb2 : zP S14 4 x0 = some b := by
      rw [e14]
      show zP (zTg S) 4 x0 = _
      rw [f3 x0 4 (nN x0 (by omega))]; exact p
    rw [hb2] at hb'
    cases hb'
    refine ⟨zt S, ?_⟩
    rw [l0, e14]
    show va_up (zB (zTg S)) b (va_up (zB (zTg S) b) (zI S 5 x0).toNatClampNeg (some (zt S))) b (zI S 5 x0).toNatClampNeg = _
    rw [va_up_self, va_up_self]
  · refine t_d_X1_putTag_38 (SZ := SZ) hT hR r_x0 r_x1 r_x2 q0 q1 q2 (by omega) (fun b' hb' => ?_)
    rw [p] at hb'
    cases hb'
    exact ⟨b3, by rw [← e2]; exact hv⟩
theorem t_d_X1_putTag {SZ S : ZS} {x0 : Nat} {x1 : Nat} {x2 : Nat} (hT : ZT S) (hR : RP SZ S) (r_x0 : zK S x0 = 1) (r_x1 : zK S x1 = 6) (r_x2 : zK S x2 = 6) (q0 : (zI S 1 x1).toInt ≤ 200) (q1 : (zI S 1 x2).toInt ≤ 200) (q2 : 1 ≤ rc x2) : Ok (d_X1_putTag x0 x1 x2 S) (fun o => ZT o.2 ∧ RP SZ o.2 ∧ True) := t_d_X1_putTag_0 hT hR r_x0 r_x1 r_x2 q0 q1 q2
theorem t_d_X2_readTag_111 {SZ S : ZS} {x0 : Nat} {x1 : Int32} (hT : ZT S) (hR : RP SZ S) (r_x0 : zK S x0 = 2) : Ok (d_X2_readTag_111 x0 x1 S) (fun o => ZT o.2 ∧ RP SZ o.2 ∧ ((0 : Int) ≤ o.1.toInt ∧ o.1.toInt ≤ (1 : Int))) := by
  unfold d_X2_readTag_111
  have j12 := J_2_4 hT r_x0
  refine ok_chk r_x0 ?_
  obtain ⟨⟨r1, S1⟩, h_r1, T_S1, A_S1, p_r1⟩ := t_f_X2_refuse (x0 := x0) (x1 := (2 : Int32)) (x2 := x1) (SZ := S) hT (a7_0 S) r_x0
  replace T_S1 : ZT S1 := T_S1
  replace A_S1 : A7 S S1 := A_S1
  dsimp only at p_r1
  refine ok_calR h_r1 ?_
  have q_S1 := fq_X2_refuse h_r1
  have kE_S1 : zK S1 = zK S := q_S1.2.2.1
  have nE_S1 : zN S1 = zN S := q_S1.2.2.2.1
  have R_S1 : RP SZ S1 := rp_f hR hT q_S1 (fz_X2_refuse h_r1) (by decide) A_S1
  have : (zI S1 4 x0).toInt = (zI S 4 x0).toInt := congrArg Int32.toInt ((((fz_X2_refuse h_r1) hT.2.2.2.2.1).2.2 x0 (by rw [r_x0]; decide)).2.2.1 4 (by rw [r_x0]; decide))
  refine ok_chk ⟨q_S1.1, q_S1.2.1⟩ ?_
  refine ok_chk (nar_b (v := r1) (by omega) (by omega)) ?_
  exact ok_ret ⟨T_S1, R_S1, (show (0 : Int) ≤ r1.toInt ∧ r1.toInt ≤ (1 : Int) from (by omega))⟩
theorem t_d_X2_readTag_158 {SZ S : ZS} {x0 : Nat} (hT : ZT S) (hR : RP SZ S) (r_x0 : zK S x0 = 2) (q0 : ∀ b, zP S 6 x0 = some b → (zI S 1 b).toInt ≤ 200) (q1 : ∀ b, zP S 7 x0 = some b → (zI S 1 b).toInt ≤ 200) : Ok (d_X2_readTag_158 x0 S) (fun o => ZT o.2 ∧ RP SZ o.2 ∧ ((0 : Int) ≤ o.1.toInt ∧ o.1.toInt ≤ (1 : Int))) := by
  unfold d_X2_readTag_158
  have j13 := J_2_4 hT r_x0
  refine ok_chk r_x0 ?_
  obtain ⟨b1, p_b1, k_b1⟩ := T_2_3 hT r_x0
  have lo_b1 := M_2_3 hT r_x0 p_b1
  refine ok_calR p_b1 ?_
  refine ok_chk r_x0 ?_
  obtain ⟨b2, p_b2, k_b2, c_b2⟩ := T_2_6 hT r_x0
  have lo_b2 := M_2_6 hT r_x0 p_b2
  have rl_b2 := rL_x1 lo_b2 c_b2
  refine ok_calR p_b2 ?_
  have e9 := q0 b2 p_b2
  refine ok_chk r_x0 ?_
  obtain ⟨b3, p_b3, k_b3, c_b3⟩ := T_2_7 hT r_x0
  have lo_b3 := M_2_7 hT r_x0 p_b3
  have rl_b3 := rL_x1 lo_b3 c_b3
  refine ok_calR p_b3 ?_
  have e8 := q1 b3 p_b3
  refine ok_chk k_b1 ?_
  have j14 := J61_1 hT k_b2 c_b2
  have j15 := J61_1 hT k_b3 c_b3
  obtain ⟨⟨r5, S6⟩, h_r5, T_S6, B_S6, -⟩ := t_d_X1_putTag (x0 := b1) (x1 := b2) (x2 := b3) (SZ := S) hT (rp_0 S) k_b1 k_b2 k_b3 (by omega) (by omega) lo_b3
  replace T_S6 : ZT S6 := T_S6
  replace B_S6 : RP S S6 := B_S6
  have R_S6 : RP SZ S6 := rp_t hR B_S6
  refine ok_cal2R h_r5 ?_
  have g_S6 := (fz_X1_putTag h_r5 hT.2.2.2.2.1).2.2
  have : (zI S6 4 x0).toInt = (zI S 4 x0).toInt := congrArg Int32.toInt ((g_S6 x0 (lt18 r_x0 (by decide))).2.2.1 4 (by rw [r_x0]; decide))
  refine ok_chk (by decide) ?_
  exact ok_ret ⟨T_S6, R_S6, (show (0 : Int) ≤ (1 : Int32).toInt ∧ (1 : Int32).toInt ≤ (1 : Int) from (by decide))⟩
theorem t_d_X2_readTag_0 {SZ S : ZS} {x0 : Nat} (hT : ZT S) (hR : RP SZ S) (r_x0 : zK S x0 = 2) (q0 : (zI S 4 x0).toInt ≤ 90000) : Ok (d_X2_readTag_0 x0 S) (fun o => ZT o.2 ∧ RP SZ o.2 ∧ ((0 : Int) ≤ o.1.toInt ∧ o.1.toInt ≤ (1 : Int))) := by
  unfold d_X2_readTag_0
  have j16 := J_2_4 hT r_x0
  refine ok_chk r_x0 ?_
  refine ok_chk r_x0 ?_
  obtain ⟨⟨r2, S3⟩, h_r2, T_S3, B_S3, p_r2⟩ := t_d_X2_readName (x0 := x0) (SZ := S) hT (rp_0 S) r_x0 q0
  replace T_S3 : ZT S3 := T_S3
  replace B_S3 : RP S S3 := B_S3
  have R_S3 : RP SZ S3 := rp_t hR B_S3
  dsimp only at p_r2
  refine ok_cal2R h_r2 ?_
  have g_S3 := (fz_X2_readName h_r2 hT.2.2.2.2.1).2.2
  refine ok_if (fun c17 => ?_) (fun c17 => ?_)
  ·
    replace c17 := ti_eqP (a := r2) (b := (0 : Int32)) c17 rfl (show (0 : Int32).toInt = 0 from rfl)
    unfold d_X2_readTag_19
    refine ok_chk (by decide) ?_
    exact ok_ret ⟨T_S3, R_S3, (show (0 : Int) ≤ (0 : Int32).toInt ∧ (0 : Int32).toInt ≤ (1 : Int) from (by decide))⟩
  ·
    replace c17 := ti_eqN (a := r2) (b := (0 : Int32)) c17 rfl (show (0 : Int32).toInt = 0 from rfl)
    refine ok_chk ((g_S3 x0 (lt18 r_x0 (by decide))).1.trans r_x0) ?_
    obtain ⟨⟨r7, S8⟩, h_r7, T_S8, B_S8, p_r7⟩ := t_d_X2_readValue (x0 := x0) (SZ := S3) T_S3 (rp_0 S3) ((g_S3 x0 (lt18 r_x0 (by decide))).1.trans r_x0)
    replace T_S8 : ZT S8 := T_S8
    replace B_S8 : RP S3 S8 := B_S8
    have R_S8 : RP SZ S8 := rp_t R_S3 B_S8
    dsimp only at p_r7
    refine ok_cal2R h_r7 ?_
    have g_S8 := (fz_X2_readValue h_r7 T_S3.2.2.2.2.1).2.2
    refine ok_if (fun c18 => ?_) (fun c18 => ?_)
    ·
      replace c18 := ti_eqP (a := r7) (b := (0 : Int32)) c18 rfl (show (0 : Int32).toInt = 0 from rfl)
      unfold d_X2_readTag_19
      refine ok_chk (by decide) ?_
      exact ok_ret ⟨T_S8, R_S8, (show (0 : Int) ≤ (0 : Int32).toInt ∧ (0 : Int32).toInt ≤ (1 : Int) from (by decide))⟩
    ·
      replace c18 := ti_eqN (a := r7) (b := (0 : Int32)) c18 rfl (show (0 : Int32).toInt = 0 from rfl)
      refine ok_chk ((g_S8 x0 (lt18 ((g_S3 x0 (lt18 r_x0 (by decide))).1.trans r_x0) (by decide))).1.trans ((g_S3 x0 (lt18 r_x0 (by decide))).1.trans r_x0)) ?_
      obtain ⟨⟨r11, S11⟩, h_r11, T_S11, A_S11, -⟩ := t_f_X2_skipBlanks (x0 := x0) (SZ := S8) T_S8 (a7_0 S8) ((g_S8 x0 (lt18 ((g_S3 x0 (lt18 r_x0 (by decide))).1.trans r_x0) (by decide))).1.trans ((g_S3 x0 (lt18 r_x0 (by decide))).1.trans r_x0))
      replace T_S11 : ZT S11 := T_S11
      replace A_S11 : A7 S8 S11 := A_S11
      refine ok_calR h_r11 ?_
      have q_S11 := fq_X2_skipBlanks h_r11
      have kE_S11 : zK S11 = zK S8 := q_S11.2.2.1
      have nE_S11 : zN S11 = zN S8 := q_S11.2.2.2.1
      have R_S11 : RP SZ S11 := rp_f R_S8 T_S8 q_S11 (fz_X2_skipBlanks h_r11) (by decide) A_S11
      refine ok_chk ⟨q_S11.1, q_S11.2.1⟩ ?_
      refine ok_chk ((congrFun kE_S11 x0).trans ((g_S8 x0 (lt18 ((g_S3 x0 (lt18 r_x0 (by decide))).1.trans r_x0) (by decide))).1.trans ((g_S3 x0 (lt18 r_x0 (by decide))).1.trans r_x0))) ?_
      obtain ⟨b12, p_b12, k_b12, c_b12⟩ := T_2_2 T_S11 ((congrFun kE_S11 x0).trans ((g_S8 x0 (lt18 ((g_S3 x0 (lt18 r_x0 (by decide))).1.trans r_x0) (by decide))).1.trans ((g_S3 x0 (lt18 r_x0 (by decide))).1.trans r_x0)))
      have rl_b12 := rL_ge b12
      refine ok_calR p_b12 ?_
      refine ok_chk ((congrFun kE_S11 x0).trans ((g_S8 x0 (lt18 ((g_S3 x0 (lt18 r_x0 (by decide))).1.trans r_x0) (by decide))).1.trans ((g_S3 x0 (lt18 r_x0 (by decide))).1.trans r_x0))) ?_
      refine ok_chk k_b12 ?_
      have j19 := J61_2 T_S11 k_b12 c_b12
      obtain ⟨r13, h_r13, p_r13⟩ := roz (t_f_X6_at (x0 := b12) (x1 := (zI S11 4 x0)) T_S11 k_b12)
      dsimp only at p_r13
      refine ok_calR h_r13 ?_
      refine ok_chk ⟨rfl, rfl⟩ ?_
      refine ok_if (fun c20 => ?_) (fun c20 => ?_)
      ·
        replace c20 := ti_eqP (a := r13) (b := (93 : Int32)) c20 rfl (show (93 : Int32).toInt = 93 from rfl)
        refine ok_chk ((congrFun kE_S11 x0).trans ((g_S8 x0 (lt18 ((g_S3 x0 (lt18 r_x0 (by decide))).1.trans r_x0) (by decide))).1.trans ((g_S3 x0 (lt18 r_x0 (by decide))).1.trans r_x0))) ?_
        refine ok_bnd (fun v14 e21 => ?_)
        have j22 := J_2_4 T_S11 ((congrFun kE_S11 x0).trans ((g_S8 x0 (lt18 ((g_S3 x0 (lt18 r_x0 (by decide))).1.trans r_x0) (by decide))).1.trans ((g_S3 x0 (lt18 r_x0 (by decide))).1.trans r_x0)))
        have t_v14 : v14.toInt = (zI S11 4 x0).toInt + 1 := ti_add e21 rfl (show (1 : Int32).toInt = 1 from rfl) (by omega) (by omega)
        refine ok_chk ((congrFun kE_S11 x0).trans ((g_S8 x0 (lt18 ((g_S3 x0 (lt18 r_x0 (by decide))).1.trans r_x0) (by decide))).1.trans ((g_S3 x0 (lt18 r_x0 (by decide))).1.trans r_x0))) ?_
        refine ok_bnd (fun S15 e23 => ?_)
        have T_S15 : ZT S15 := e23.symm ▸ zt_I T_S11 ((congrFun kE_S11 x0).trans ((g_S8 x0 (lt18 ((g_S3 x0 (lt18 r_x0 (by decide))).1.trans r_x0) (by decide))).1.trans ((g_S3 x0 (lt18 r_x0 (by decide))).1.trans r_x0))) (by decide) (show (0 : Int) ≤ v14.toInt ∧ v14.toInt ≤ (90100 : Int) from (by omega))
        have kE_S15 : zK S15 = zK S11 := by rw [e23]; rfl
        have nE_S15 : zN S15 = zN S11 := by rw [e23]; rfl
        have R_S15 : RP SZ S15 := rp_I R_S11 T_S11 ((congrFun kE_S11 x0).trans ((g_S8 x0 (lt18 ((g_S3 x0 (lt18 r_x0 (by decide))).1.trans r_x0) (by decide))).1.trans ((g_S3 x0 (lt18 r_x0 (by decide))).1.trans r_x0))) e23 (by decide)
        have : (zI S15 4 x0).toInt = v14.toInt := by rw [e23]; exact (congrArg Int32.toInt (zI_self _ _ _ _)).trans rfl
        refine ok_chk ((congrFun kE_S15 x0).trans ((congrFun kE_S11 x0).trans ((g_S8 x0 (lt18 ((g_S3 x0 (lt18 r_x0 (by decide))).1.trans r_x0) (by decide))).1.trans ((g_S3 x0 (lt18 r_x0 (by decide))).1.trans r_x0)))) ?_
        obtain ⟨b16, p_b16, k_b16⟩ := T_2_3 T_S15 ((congrFun kE_S15 x0).trans ((congrFun kE_S11 x0).trans ((g_S8 x0 (lt18 ((g_S3 x0 (lt18 r_x0 (by decide))).1.trans r_x0) (by decide))).1.trans ((g_S3 x0 (lt18 r_x0 (by decide))).1.trans r_x0))))
        have lo_b16 := M_2_3 T_S15 ((congrFun kE_S15 x0).trans ((congrFun kE_S11 x0).trans ((g_S8 x0 (lt18 ((g_S3 x0 (lt18 r_x0 (by decide))).1.trans r_x0) (by decide))).1.trans ((g_S3 x0 (lt18 r_x0 (by decide))).1.trans r_x0)))) p_b16
        refine ok_calR p_b16 ?_
        refine ok_chk k_b16 ?_
        have j24 := J_1_5 T_S15 k_b16
        refine ok_if (fun c25 => ?_) (fun c25 => ?_)
        ·
          replace c25 := ti_leP (a := (8 : Int32)) (b := (zI S15 5 b16)) c25 (show (8 : Int32).toInt = 8 from rfl) rfl
          exact t_d_X2_readTag_111 (S := S15)  (x0 := x0) (x1 := (zI S 4 x0)) T_S15 R_S15 ((congrFun kE_S15 x0).trans ((congrFun kE_S11 x0).trans ((g_S8 x0 (lt18 ((g_S3 x0 (lt18 r_x0 (by decide))).1.trans r_x0) (by decide))).1.trans ((g_S3 x0 (lt18 r_x0 (by decide))).1.trans r_x0))))
        ·
          replace c25 := ti_leN (a := (8 : Int32)) (b := (zI S15 5 b16)) c25 (show (8 : Int32).toInt = 8 from rfl) rfl
          refine ok_chk ((congrFun kE_S15 x0).trans ((congrFun kE_S11 x0).trans ((g_S8 x0 (lt18 ((g_S3 x0 (lt18 r_x0 (by decide))).1.trans r_x0) (by decide))).1.trans ((g_S3 x0 (lt18 r_x0 (by decide))).1.trans r_x0)))) ?_
          obtain ⟨b17, p_b17, k_b17, c_b17⟩ := T_2_6 T_S15 ((congrFun kE_S15 x0).trans ((congrFun kE_S11 x0).trans ((g_S8 x0 (lt18 ((g_S3 x0 (lt18 r_x0 (by decide))).1.trans r_x0) (by decide))).1.trans ((g_S3 x0 (lt18 r_x0 (by decide))).1.trans r_x0))))
          have lo_b17 := M_2_6 T_S15 ((congrFun kE_S15 x0).trans ((congrFun kE_S11 x0).trans ((g_S8 x0 (lt18 ((g_S3 x0 (lt18 r_x0 (by decide))).1.trans r_x0) (by decide))).1.trans ((g_S3 x0 (lt18 r_x0 (by decide))).1.trans r_x0)))) p_b17
          have rl_b17 := rL_x1 lo_b17 c_b17
          refine ok_calR p_b17 ?_
          refine ok_chk k_b17 ?_
          have j26 := J61_1 T_S15 k_b17 c_b17
          obtain ⟨r18, h_r18, p_r18⟩ := roz (t_f_X6_size (x0 := b17) T_S15 k_b17)
          dsimp only at p_r18
          refine ok_calR h_r18 ?_
          have s_r18 : r18.toInt = (zI S15 1 b17).toInt := congrArg Int32.toInt p_r18.2
          refine ok_chk ⟨rfl, rfl⟩ ?_
          refine ok_if (fun c27 => ?_) (fun c27 => ?_)
          ·
            replace c27 := ti_ltP (a := (12 : Int32)) (b := r18) c27 (show (12 : Int32).toInt = 12 from rfl) rfl
            exact t_d_X2_readTag_111 (S := S15)  (x0 := x0) (x1 := (zI S 4 x0)) T_S15 R_S15 ((congrFun kE_S15 x0).trans ((congrFun kE_S11 x0).trans ((g_S8 x0 (lt18 ((g_S3 x0 (lt18 r_x0 (by decide))).1.trans r_x0) (by decide))).1.trans ((g_S3 x0 (lt18 r_x0 (by decide))).1.trans r_x0))))
          ·
            replace c27 := ti_ltN (a := (12 : Int32)) (b := r18) c27 (show (12 : Int32).toInt = 12 from rfl) rfl
            refine ok_chk ((congrFun kE_S15 x0).trans ((congrFun kE_S11 x0).trans ((g_S8 x0 (lt18 ((g_S3 x0 (lt18 r_x0 (by decide))).1.trans r_x0) (by decide))).1.trans ((g_S3 x0 (lt18 r_x0 (by decide))).1.trans r_x0)))) ?_
            refine ok_calR p_b16 ?_
            refine ok_chk ((congrFun kE_S15 x0).trans ((congrFun kE_S11 x0).trans ((g_S8 x0 (lt18 ((g_S3 x0 (lt18 r_x0 (by decide))).1.trans r_x0) (by decide))).1.trans ((g_S3 x0 (lt18 r_x0 (by decide))).1.trans r_x0)))) ?_
            refine ok_calR p_b17 ?_
            refine ok_chk k_b16 ?_
            obtain ⟨r22, h_r22, p_r22⟩ := roz (t_d_X1_hasTag (x0 := b16) (x1 := b17) T_S15 k_b16 k_b17)
            dsimp only at p_r22
            refine ok_cal2R h_r22 ?_
            refine ok_if (fun c28 => ?_) (fun c28 => ?_)
            ·
              replace c28 := ti_eqP (a := r22) (b := (0 : Int32)) c28 rfl (show (0 : Int32).toInt = 0 from rfl)
              refine ok_chk ((congrFun kE_S15 x0).trans ((congrFun kE_S11 x0).trans ((g_S8 x0 (lt18 ((g_S3 x0 (lt18 r_x0 (by decide))).1.trans r_x0) (by decide))).1.trans ((g_S3 x0 (lt18 r_x0 (by decide))).1.trans r_x0)))) ?_
              obtain ⟨b26, p_b26, k_b26, c_b26⟩ := T_2_7 T_S15 ((congrFun kE_S15 x0).trans ((congrFun kE_S11 x0).trans ((g_S8 x0 (lt18 ((g_S3 x0 (lt18 r_x0 (by decide))).1.trans r_x0) (by decide))).1.trans ((g_S3 x0 (lt18 r_x0 (by decide))).1.trans r_x0))))
              have lo_b26 := M_2_7 T_S15 ((congrFun kE_S15 x0).trans ((congrFun kE_S11 x0).trans ((g_S8 x0 (lt18 ((g_S3 x0 (lt18 r_x0 (by decide))).1.trans r_x0) (by decide))).1.trans ((g_S3 x0 (lt18 r_x0 (by decide))).1.trans r_x0)))) p_b26
              have rl_b26 := rL_x1 lo_b26 c_b26
              refine ok_calR p_b26 ?_
              refine ok_chk k_b26 ?_
              have j29 := J61_1 T_S15 k_b26 c_b26
              obtain ⟨r27, h_r27, p_r27⟩ := roz (t_f_X6_size (x0 := b26) T_S15 k_b26)
              dsimp only at p_r27
              refine ok_calR h_r27 ?_
              have s_r27 : r27.toInt = (zI S15 1 b26).toInt := congrArg Int32.toInt p_r27.2
              refine ok_chk ⟨rfl, rfl⟩ ?_
              refine ok_if (fun c30 => ?_) (fun c30 => ?_)
              ·
                replace c30 := ti_leP (a := r27) (b := (96 : Int32)) c30 rfl (show (96 : Int32).toInt = 96 from rfl)
                refine ok_chk ((congrFun kE_S15 x0).trans ((congrFun kE_S11 x0).trans ((g_S8 x0 (lt18 ((g_S3 x0 (lt18 r_x0 (by decide))).1.trans r_x0) (by decide))).1.trans ((g_S3 x0 (lt18 r_x0 (by decide))).1.trans r_x0)))) ?_
                refine ok_calR p_b17 ?_
                refine ok_chk k_b17 ?_
                obtain ⟨r29, h_r29, p_r29⟩ := roz (t_f_X6_is (x0 := b17) (x1 := 0) T_S15 k_b17 (by decide))
                dsimp only at p_r29
                refine ok_calR h_r29 ?_
                refine ok_chk ⟨rfl, rfl⟩ ?_
                refine ok_if (fun c31 => ?_) (fun c31 => ?_)
                ·
                  replace c31 := ti_eqP (a := r29) (b := (0 : Int32)) c31 rfl (show (0 : Int32).toInt = 0 from rfl)
                  exact t_d_X2_readTag_158 (S := S15)  (x0 := x0) T_S15 R_S15 ((congrFun kE_S15 x0).trans ((congrFun kE_S11 x0).trans ((g_S8 x0 (lt18 ((g_S3 x0 (lt18 r_x0 (by decide))).1.trans r_x0) (by decide))).1.trans ((g_S3 x0 (lt18 r_x0 (by decide))).1.trans r_x0)))) (fun b9 h9 => by rw [p_b17] at h9; cases h9; omega) (fun b9 h9 => by rw [p_b26] at h9; cases h9; omega)
                ·
                  replace c31 := ti_eqN (a := r29) (b := (0 : Int32)) c31 rfl (show (0 : Int32).toInt = 0 from rfl)
                  refine ok_chk ((congrFun kE_S15 x0).trans ((congrFun kE_S11 x0).trans ((g_S8 x0 (lt18 ((g_S3 x0 (lt18 r_x0 (by decide))).1.trans r_x0) (by decide))).1.trans ((g_S3 x0 (lt18 r_x0 (by decide))).1.trans r_x0)))) ?_
                  obtain ⟨b30, p_b30, k_b30⟩ := T_2_1 T_S15 ((congrFun kE_S15 x0).trans ((congrFun kE_S11 x0).trans ((g_S8 x0 (lt18 ((g_S3 x0 (lt18 r_x0 (by decide))).1.trans r_x0) (by decide))).1.trans ((g_S3 x0 (lt18 r_x0 (by decide))).1.trans r_x0))))
                  refine ok_calR p_b30 ?_
                  refine ok_chk ((congrFun kE_S15 x0).trans ((congrFun kE_S11 x0).trans ((g_S8 x0 (lt18 ((g_S3 x0 (lt18 r_x0 (by decide))).1.trans r_x0) (by decide))).1.trans ((g_S3 x0 (lt18 r_x0 (by decide))).1.trans r_x0)))) ?_
                  refine ok_calR p_b16 ?_
                  refine ok_chk k_b16 ?_
                  obtain ⟨b32, p_b32, k_b32⟩ := T_1_0 T_S15 k_b16
                  refine ok_calR p_b32 ?_
                  refine ok_chk ((congrFun kE_S15 x0).trans ((congrFun kE_S11 x0).trans ((g_S8 x0 (lt18 ((g_S3 x0 (lt18 r_x0 (by decide))).1.trans r_x0) (by decide))).1.trans ((g_S3 x0 (lt18 r_x0 (by decide))).1.trans r_x0)))) ?_
                  refine ok_calR p_b26 ?_
                  refine ok_chk k_b30 ?_
                  obtain ⟨⟨r34, S34⟩, h_r34, T_S34, A_S34, p_r34⟩ := t_f_X5_readInto (x0 := b30) (x1 := b32) (x2 := b26) (SZ := S15) T_S15 (a7_0 S15) k_b30 k_b32 k_b26 (Nat.le_trans c_b26 (by decide))
                  replace T_S34 : ZT S34 := T_S34
                  replace A_S34 : A7 S15 S34 := A_S34
                  dsimp only at p_r34
                  refine ok_calR h_r34 ?_
                  have q_S34 := fq_X5_readInto h_r34
                  have kE_S34 : zK S34 = zK S15 := q_S34.2.2.1
                  have nE_S34 : zN S34 = zN S15 := q_S34.2.2.2.1
                  have R_S34 : RP SZ S34 := rp_f R_S15 T_S15 q_S34 (fz_X5_readInto h_r34) (by decide) A_S34
                  have : (zI S34 4 x0).toInt = (zI S15 4 x0).toInt := congrArg Int32.toInt ((((fz_X5_readInto h_r34) T_S15.2.2.2.2.1).2.2 x0 (by rw [((congrFun kE_S15 x0).trans ((congrFun kE_S11 x0).trans ((g_S8 x0 (lt18 ((g_S3 x0 (lt18 r_x0 (by decide))).1.trans r_x0) (by decide))).1.trans ((g_S3 x0 (lt18 r_x0 (by decide))).1.trans r_x0))))]; decide)).2.2.1 4 (by rw [((congrFun kE_S15 x0).trans ((congrFun kE_S11 x0).trans ((g_S8 x0 (lt18 ((g_S3 x0 (lt18 r_x0 (by decide))).1.trans r_x0) (by decide))).1.trans ((g_S3 x0 (lt18 r_x0 (by decide))).1.trans r_x0))))]; decide))
                  refine ok_chk ⟨q_S34.1, q_S34.2.1⟩ ?_
                  refine ok_if (fun c32 => ?_) (fun c32 => ?_)
                  ·
                    replace c32 := ti_eqP (a := r34) (b := (0 : Int32)) c32 rfl (show (0 : Int32).toInt = 0 from rfl)
                    refine ok_chk ((congrFun kE_S34 x0).trans ((congrFun kE_S15 x0).trans ((congrFun kE_S11 x0).trans ((g_S8 x0 (lt18 ((g_S3 x0 (lt18 r_x0 (by decide))).1.trans r_x0) (by decide))).1.trans ((g_S3 x0 (lt18 r_x0 (by decide))).1.trans r_x0))))) ?_
                    obtain ⟨⟨r35, S35⟩, h_r35, T_S35, A_S35, p_r35⟩ := t_f_X2_refuse (x0 := x0) (x1 := (3 : Int32)) (x2 := (zI S 4 x0)) (SZ := S34) T_S34 (a7_0 S34) ((congrFun kE_S34 x0).trans ((congrFun kE_S15 x0).trans ((congrFun kE_S11 x0).trans ((g_S8 x0 (lt18 ((g_S3 x0 (lt18 r_x0 (by decide))).1.trans r_x0) (by decide))).1.trans ((g_S3 x0 (lt18 r_x0 (by decide))).1.trans r_x0)))))
                    replace T_S35 : ZT S35 := T_S35
                    replace A_S35 : A7 S34 S35 := A_S35
                    dsimp only at p_r35
                    refine ok_calR h_r35 ?_
                    have q_S35 := fq_X2_refuse h_r35
                    have kE_S35 : zK S35 = zK S34 := q_S35.2.2.1
                    have nE_S35 : zN S35 = zN S34 := q_S35.2.2.2.1
                    have R_S35 : RP SZ S35 := rp_f R_S34 T_S34 q_S35 (fz_X2_refuse h_r35) (by decide) A_S35
                    have : (zI S35 4 x0).toInt = (zI S34 4 x0).toInt := congrArg Int32.toInt ((((fz_X2_refuse h_r35) T_S34.2.2.2.2.1).2.2 x0 (by rw [((congrFun kE_S34 x0).trans ((congrFun kE_S15 x0).trans ((congrFun kE_S11 x0).trans ((g_S8 x0 (lt18 ((g_S3 x0 (lt18 r_x0 (by decide))).1.trans r_x0) (by decide))).1.trans ((g_S3 x0 (lt18 r_x0 (by decide))).1.trans r_x0)))))]; decide)).2.2.1 4 (by rw [((congrFun kE_S34 x0).trans ((congrFun kE_S15 x0).trans ((congrFun kE_S11 x0).trans ((g_S8 x0 (lt18 ((g_S3 x0 (lt18 r_x0 (by decide))).1.trans r_x0) (by decide))).1.trans ((g_S3 x0 (lt18 r_x0 (by decide))).1.trans r_x0)))))]; decide))
                    refine ok_chk ⟨q_S35.1, q_S35.2.1⟩ ?_
                    refine ok_chk (nar_b (v := r35) (by omega) (by omega)) ?_
                    exact ok_ret ⟨T_S35, R_S35, (show (0 : Int) ≤ r35.toInt ∧ r35.toInt ≤ (1 : Int) from (by omega))⟩
                  ·
                    replace c32 := ti_eqN (a := r34) (b := (0 : Int32)) c32 rfl (show (0 : Int32).toInt = 0 from rfl)
                    exact t_d_X2_readTag_158 (S := S34)  (x0 := x0) T_S34 R_S34 ((congrFun kE_S34 x0).trans ((congrFun kE_S15 x0).trans ((congrFun kE_S11 x0).trans ((g_S8 x0 (lt18 ((g_S3 x0 (lt18 r_x0 (by decide))).1.trans r_x0) (by decide))).1.trans ((g_S3 x0 (lt18 r_x0 (by decide))).1.trans r_x0))))) (fun b9 h9 => by rw [(((fz_X5_readInto h_r34) T_S15.2.2.2.2.1).2.2 x0 (lt18 ((congrFun kE_S15 x0).trans ((congrFun kE_S11 x0).trans ((g_S8 x0 (lt18 ((g_S3 x0 (lt18 r_x0 (by decide))).1.trans r_x0) (by decide))).1.trans ((g_S3 x0 (lt18 r_x0 (by decide))).1.trans r_x0)))) (by decide))).2.2.2.1 6 (by rw [((congrFun kE_S15 x0).trans ((congrFun kE_S11 x0).trans ((g_S8 x0 (lt18 ((g_S3 x0 (lt18 r_x0 (by decide))).1.trans r_x0) (by decide))).1.trans ((g_S3 x0 (lt18 r_x0 (by decide))).1.trans r_x0))))]; decide), p_b17] at h9; cases h9; have h7 : (zI S34 1 b17).toInt = (zI S15 1 b17).toInt := congrArg Int32.toInt ((((fz_X5_readInto h_r34) T_S15.2.2.2.2.1).2.2 b17 (lt18 k_b17 (by decide))).2.2.1 1 (by rw [k_b17]; decide)); omega) (fun b9 h9 => by rw [(((fz_X5_readInto h_r34) T_S15.2.2.2.2.1).2.2 x0 (lt18 ((congrFun kE_S15 x0).trans ((congrFun kE_S11 x0).trans ((g_S8 x0 (lt18 ((g_S3 x0 (lt18 r_x0 (by decide))).1.trans r_x0) (by decide))).1.trans ((g_S3 x0 (lt18 r_x0 (by decide))).1.trans r_x0)))) (by decide))).2.2.2.1 7 (by rw [((congrFun kE_S15 x0).trans ((congrFun kE_S11 x0).trans ((g_S8 x0 (lt18 ((g_S3 x0 (lt18 r_x0 (by decide))).1.trans r_x0) (by decide))).1.trans ((g_S3 x0 (lt18 r_x0 (by decide))).1.trans r_x0))))]; decide), p_b26] at h9; cases h9; have h7 : (zI S34 1 b26).toInt = (zI S15 1 b26).toInt := congrArg Int32.toInt ((((fz_X5_readInto h_r34) T_S15.2.2.2.2.1).2.2 b26 (lt18 k_b26 (by decide))).2.2.1 1 (by rw [k_b26]; decide)); omega)
              ·
                replace c30 := ti_leN (a := r27) (b := (96 : Int32)) c30 rfl (show (96 : Int32).toInt = 96 from rfl)
                exact t_d_X2_readTag_111 (S := S15)  (x0 := x0) (x1 := (zI S 4 x0)) T_S15 R_S15 ((congrFun kE_S15 x0).trans ((congrFun kE_S11 x0).trans ((g_S8 x0 (lt18 ((g_S3 x0 (lt18 r_x0 (by decide))).1.trans r_x0) (by decide))).1.trans ((g_S3 x0 (lt18 r_x0 (by decide))).1.trans r_x0))))
            ·
              replace c28 := ti_eqN (a := r22) (b := (0 : Int32)) c28 rfl (show (0 : Int32).toInt = 0 from rfl)
              exact t_d_X2_readTag_111 (S := S15)  (x0 := x0) (x1 := (zI S 4 x0)) T_S15 R_S15 ((congrFun kE_S15 x0).trans ((congrFun kE_S11 x0).trans ((g_S8 x0 (lt18 ((g_S3 x0 (lt18 r_x0 (by decide))).1.trans r_x0) (by decide))).1.trans ((g_S3 x0 (lt18 r_x0 (by decide))).1.trans r_x0))))
      ·
        replace c20 := ti_eqN (a := r13) (b := (93 : Int32)) c20 rfl (show (93 : Int32).toInt = 93 from rfl)
        refine ok_chk ((congrFun kE_S11 x0).trans ((g_S8 x0 (lt18 ((g_S3 x0 (lt18 r_x0 (by decide))).1.trans r_x0) (by decide))).1.trans ((g_S3 x0 (lt18 r_x0 (by decide))).1.trans r_x0))) ?_
        refine ok_chk ((congrFun kE_S11 x0).trans ((g_S8 x0 (lt18 ((g_S3 x0 (lt18 r_x0 (by decide))).1.trans r_x0) (by decide))).1.trans ((g_S3 x0 (lt18 r_x0 (by decide))).1.trans r_x0))) ?_
        obtain ⟨⟨r36, S36⟩, h_r36, T_S36, A_S36, p_r36⟩ := t_f_X2_refuse (x0 := x0) (x1 := (1 : Int32)) (x2 := (zI S11 4 x0)) (SZ := S11) T_S11 (a7_0 S11) ((congrFun kE_S11 x0).trans ((g_S8 x0 (lt18 ((g_S3 x0 (lt18 r_x0 (by decide))).1.trans r_x0) (by decide))).1.trans ((g_S3 x0 (lt18 r_x0 (by decide))).1.trans r_x0)))
        replace T_S36 : ZT S36 := T_S36
        replace A_S36 : A7 S11 S36 := A_S36
        dsimp only at p_r36
        refine ok_calR h_r36 ?_
        have q_S36 := fq_X2_refuse h_r36
        have kE_S36 : zK S36 = zK S11 := q_S36.2.2.1
        have nE_S36 : zN S36 = zN S11 := q_S36.2.2.2.1
        have R_S36 : RP SZ S36 := rp_f R_S11 T_S11 q_S36 (fz_X2_refuse h_r36) (by decide) A_S36
        have : (zI S36 4 x0).toInt = (zI S11 4 x0).toInt := congrArg Int32.toInt ((((fz_X2_refuse h_r36) T_S11.2.2.2.2.1).2.2 x0 (by rw [((congrFun kE_S11 x0).trans ((g_S8 x0 (lt18 ((g_S3 x0 (lt18 r_x0 (by decide))).1.trans r_x0) (by decide))).1.trans ((g_S3 x0 (lt18 r_x0 (by decide))).1.trans r_x0)))]; decide)).2.2.1 4 (by rw [((congrFun kE_S11 x0).trans ((g_S8 x0 (lt18 ((g_S3 x0 (lt18 r_x0 (by decide))).1.trans r_x0) (by decide))).1.trans ((g_S3 x0 (lt18 r_x0 (by decide))).1.trans r_x0)))]; decide))
        refine ok_chk ⟨q_S36.1, q_S36.2.1⟩ ?_
        refine ok_chk (nar_b (v := r36) (by omega) (by omega)) ?_
        exact ok_ret ⟨T_S36, R_S36, (show (0 : Int) ≤ r36.toInt ∧ r36.toInt ≤ (1 : Int) from (by omega))⟩
theorem t_d_X2_readTag {SZ S : ZS} {x0 : Nat} (hT : ZT S) (hR : RP SZ S) (r_x0 : zK S x0 = 2) (q0 : (zI S 4 x0).toInt ≤ 90000) : Ok (d_X2_readTag x0 S) (fun o => ZT o.2 ∧ RP SZ o.2 ∧ ((0 : Int) ≤ o.1.toInt ∧ o.1.toInt ≤ (1 : Int))) := t_d_X2_readTag_0 hT hR r_x0 q0
theorem t_d_X2_readHead_50 {SZ S : ZS} {x0 : Nat} {x1 : Int32} (hT : ZT S) (hR : RP SZ S) (r_x0 : zK S x0 = 2) (r_x1 : (0 : Int) ≤ x1.toInt ∧ x1.toInt ≤ (1 : Int)) : Ok (d_X2_readHead_50 x0 x1 S) (fun o => ZT o.2 ∧ RP SZ o.2 ∧ ((0 : Int) ≤ o.1.toInt ∧ o.1.toInt ≤ (1 : Int))) := by
  unfold d_X2_readHead_50
  have j33 := J_2_4 hT r_x0
  refine ok_if (fun c34 => ?_) (fun c34 => ?_)
  ·
    replace c34 := ti_eqP (a := x1) (b := (0 : Int32)) c34 rfl (show (0 : Int32).toInt = 0 from rfl)
    unfold d_X2_readHead_73
    unfold d_X2_readHead_74
    refine ok_chk (by decide) ?_
    exact ok_ret ⟨hT, hR, (show (0 : Int) ≤ (0 : Int32).toInt ∧ (0 : Int32).toInt ≤ (1 : Int) from (by decide))⟩
  ·
    replace c34 := ti_eqN (a := x1) (b := (0 : Int32)) c34 rfl (show (0 : Int32).toInt = 0 from rfl)
    refine ok_chk r_x0 ?_
    obtain ⟨b1, p_b1, k_b1⟩ := T_2_3 hT r_x0
    have lo_b1 := M_2_3 hT r_x0 p_b1
    refine ok_calR p_b1 ?_
    refine ok_chk k_b1 ?_
    have zl35 : (0 : Int32).toInt = 0 := rfl
    obtain ⟨r2, h_r2, p_r2⟩ := roz (t_f_X1_at (x0 := b1) (x1 := (0 : Int32)) hT k_b1)
    dsimp only at p_r2
    refine ok_calR h_r2 ?_
    refine ok_chk ⟨rfl, rfl⟩ ?_
    refine ok_chk r_x0 ?_
    obtain ⟨⟨r4, S5⟩, h_r4, T_S5, B_S5, p_r4⟩ := t_d_X2_readRemarks (x0 := x0) (x1 := r2) (SZ := S) hT (rp_0 S) r_x0 p_r2.1
    replace T_S5 : ZT S5 := T_S5
    replace B_S5 : RP S S5 := B_S5
    have R_S5 : RP SZ S5 := rp_t hR B_S5
    dsimp only at p_r4
    refine ok_cal2R h_r4 ?_
    have g_S5 := (fz_X2_readRemarks h_r4 hT.2.2.2.2.1).2.2
    refine ok_if (fun c36 => ?_) (fun c36 => ?_)
    ·
      replace c36 := ti_eqP (a := r4) (b := (0 : Int32)) c36 rfl (show (0 : Int32).toInt = 0 from rfl)
      unfold d_X2_readHead_73
      unfold d_X2_readHead_74
      refine ok_chk (by decide) ?_
      exact ok_ret ⟨T_S5, R_S5, (show (0 : Int) ≤ (0 : Int32).toInt ∧ (0 : Int32).toInt ≤ (1 : Int) from (by decide))⟩
    ·
      replace c36 := ti_eqN (a := r4) (b := (0 : Int32)) c36 rfl (show (0 : Int32).toInt = 0 from rfl)
      unfold d_X2_readHead_74
      refine ok_chk (by decide) ?_
      exact ok_ret ⟨T_S5, R_S5, (show (0 : Int) ≤ (1 : Int32).toInt ∧ (1 : Int32).toInt ≤ (1 : Int) from (by decide))⟩
theorem t_d_X2_readHead_8s {SZ S : ZS} {self8 : Nat → Int32 → Int32 → ZS → Option (Int32 × ZS)} {N8 : Nat} (hself8 : ∀ (x0 : Nat) (x1 : Int32) (x2 : Int32) (S : ZS), ZT S → RP SZ S → (zK S x0 = 2) → ((0 : Int) ≤ x1.toInt ∧ x1.toInt ≤ (1 : Int)) → ((0 : Int) ≤ x2.toInt ∧ x2.toInt ≤ (2000 : Int)) → (2001 - x2.toInt) < (N8 : Int) → Ok (self8 x0 x1 x2 S) (fun o => ZT o.2 ∧ RP SZ o.2 ∧ ((0 : Int) ≤ o.1.toInt ∧ o.1.toInt ≤ (1 : Int)))) {x0 : Nat} {x1 : Int32} {x2 : Int32} (hT : ZT S) (hR : RP SZ S) (r_x0 : zK S x0 = 2) (r_x1 : (0 : Int) ≤ x1.toInt ∧ x1.toInt ≤ (1 : Int)) (r_x2 : (0 : Int) ≤ x2.toInt ∧ x2.toInt ≤ (2000 : Int)) (m8 : (2001 - x2.toInt) ≤ (N8 : Int)) : Ok (d_X2_readHead_8s self8 x0 x1 x2 S) (fun o => ZT o.2 ∧ RP SZ o.2 ∧ ((0 : Int) ≤ o.1.toInt ∧ o.1.toInt ≤ (1 : Int))) := by
  unfold d_X2_readHead_8s
  have j37 := J_2_4 hT r_x0
  refine ok_if (fun c38 => ?_) (fun c38 => ?_)
  ·
    replace c38 := ti_leP (a := (2000 : Int32)) (b := x2) c38 (show (2000 : Int32).toInt = 2000 from rfl) rfl
    exact t_d_X2_readHead_50 (S := S)  (x0 := x0) (x1 := x1) hT hR r_x0 r_x1
  ·
    replace c38 := ti_leN (a := (2000 : Int32)) (b := x2) c38 (show (2000 : Int32).toInt = 2000 from rfl) rfl
    refine ok_if (fun c39 => ?_) (fun c39 => ?_)
    ·
      replace c39 := ti_eqP (a := x1) (b := (0 : Int32)) c39 rfl (show (0 : Int32).toInt = 0 from rfl)
      exact t_d_X2_readHead_50 (S := S)  (x0 := x0) (x1 := x1) hT hR r_x0 r_x1
    ·
      replace c39 := ti_eqN (a := x1) (b := (0 : Int32)) c39 rfl (show (0 : Int32).toInt = 0 from rfl)
      refine ok_chk r_x0 ?_
      obtain ⟨b1, p_b1, k_b1, c_b1⟩ := T_2_2 hT r_x0
      have rl_b1 := rL_ge b1
      refine ok_calR p_b1 ?_
      refine ok_chk r_x0 ?_
      refine ok_chk k_b1 ?_
      have j40 := J61_2 hT k_b1 c_b1
      obtain ⟨r2, h_r2, p_r2⟩ := roz (t_f_X6_at (x0 := b1) (x1 := (zI S 4 x0)) hT k_b1)
      dsimp only at p_r2
      refine ok_calR h_r2 ?_
      refine ok_chk ⟨rfl, rfl⟩ ?_
      refine ok_if (fun c41 => ?_) (fun c41 => ?_)
      ·
        replace c41 := ti_eqP (a := r2) (b := (91 : Int32)) c41 rfl (show (91 : Int32).toInt = 91 from rfl)
        refine ok_chk r_x0 ?_
        obtain ⟨⟨r4, S5⟩, h_r4, T_S5, B_S5, p_r4⟩ := t_d_X2_readTag (x0 := x0) (SZ := S) hT (rp_0 S) r_x0 (by omega)
        replace T_S5 : ZT S5 := T_S5
        replace B_S5 : RP S S5 := B_S5
        have R_S5 : RP SZ S5 := rp_t hR B_S5
        dsimp only at p_r4
        refine ok_cal2R h_r4 ?_
        have g_S5 := (fz_X2_readTag h_r4 hT.2.2.2.2.1).2.2
        refine ok_chk ((g_S5 x0 (lt18 r_x0 (by decide))).1.trans r_x0) ?_
        obtain ⟨⟨r8, S8⟩, h_r8, T_S8, A_S8, -⟩ := t_f_X2_skipBlanks (x0 := x0) (SZ := S5) T_S5 (a7_0 S5) ((g_S5 x0 (lt18 r_x0 (by decide))).1.trans r_x0)
        replace T_S8 : ZT S8 := T_S8
        replace A_S8 : A7 S5 S8 := A_S8
        refine ok_calR h_r8 ?_
        have q_S8 := fq_X2_skipBlanks h_r8
        have kE_S8 : zK S8 = zK S5 := q_S8.2.2.1
        have nE_S8 : zN S8 = zN S5 := q_S8.2.2.2.1
        have R_S8 : RP SZ S8 := rp_f R_S5 T_S5 q_S8 (fz_X2_skipBlanks h_r8) (by decide) A_S8
        refine ok_chk ⟨q_S8.1, q_S8.2.1⟩ ?_
        refine ok_bnd (fun v9 e42 => ?_)
        have t_v9 : v9.toInt = x2.toInt + 1 := ti_add e42 rfl (show (1 : Int32).toInt = 1 from rfl) (by omega) (by omega)
        exact hself8 x0 r4 v9 S8 T_S8 R_S8 ((congrFun kE_S8 x0).trans ((g_S5 x0 (lt18 r_x0 (by decide))).1.trans r_x0)) (by omega) (by omega) (by omega)
      ·
        replace c41 := ti_eqN (a := r2) (b := (91 : Int32)) c41 rfl (show (91 : Int32).toInt = 91 from rfl)
        exact t_d_X2_readHead_50 (S := S)  (x0 := x0) (x1 := x1) hT hR r_x0 r_x1
theorem t_d_X2_readHead_8 {SZ : ZS} : ∀ (n : Nat) (x0 : Nat) (x1 : Int32) (x2 : Int32) (S : ZS), ZT S → RP SZ S → (zK S x0 = 2) → ((0 : Int) ≤ x1.toInt ∧ x1.toInt ≤ (1 : Int)) → ((0 : Int) ≤ x2.toInt ∧ x2.toInt ≤ (2000 : Int)) → (2001 - x2.toInt) < (n : Int) → Ok (d_X2_readHead_8  n x0 x1 x2 S) (fun o => ZT o.2 ∧ RP SZ o.2 ∧ ((0 : Int) ≤ o.1.toInt ∧ o.1.toInt ≤ (1 : Int))) := by
  intro n
  induction n with
  | zero => intro x0 x1 x2 S hT hR g0 g1 g2  hm; exfalso; omega
  | succ n ih =>
    intro x0 x1 x2 S hT hR g0 g1 g2  hm
    exact t_d_X2_readHead_8s (N8 := n)  ih hT hR g0 g1 g2  (by omega)
theorem t_d_X2_readHead_0 {SZ S : ZS} {x0 : Nat} (hT : ZT S) (hR : RP SZ S) (r_x0 : zK S x0 = 2) : Ok (d_X2_readHead_0 x0 S) (fun o => ZT o.2 ∧ RP SZ o.2 ∧ ((0 : Int) ≤ o.1.toInt ∧ o.1.toInt ≤ (1 : Int))) := by
  unfold d_X2_readHead_0
  have j43 := J_2_4 hT r_x0
  refine ok_chk r_x0 ?_
  obtain ⟨⟨r1, S1⟩, h_r1, T_S1, A_S1, -⟩ := t_f_X2_skipBlanks (x0 := x0) (SZ := S) hT (a7_0 S) r_x0
  replace T_S1 : ZT S1 := T_S1
  replace A_S1 : A7 S S1 := A_S1
  refine ok_calR h_r1 ?_
  have q_S1 := fq_X2_skipBlanks h_r1
  have kE_S1 : zK S1 = zK S := q_S1.2.2.1
  have nE_S1 : zN S1 = zN S := q_S1.2.2.2.1
  have R_S1 : RP SZ S1 := rp_f hR hT q_S1 (fz_X2_skipBlanks h_r1) (by decide) A_S1
  refine ok_chk ⟨q_S1.1, q_S1.2.1⟩ ?_
  exact t_d_X2_readHead_8   mFuel x0 (1 : Int32) (0 : Int32) S1 T_S1 R_S1 ((congrFun kE_S1 x0).trans r_x0) (by decide) (by decide) (by show _ < ((200000 : Nat) : Int); have z0 : (1 : Int32).toInt = 1 := rfl; have z1 : (0 : Int32).toInt = 0 := rfl; omega)
theorem t_d_X2_readHead {SZ S : ZS} {x0 : Nat} (hT : ZT S) (hR : RP SZ S) (r_x0 : zK S x0 = 2) : Ok (d_X2_readHead x0 S) (fun o => ZT o.2 ∧ RP SZ o.2 ∧ ((0 : Int) ≤ o.1.toInt ∧ o.1.toInt ≤ (1 : Int))) := t_d_X2_readHead_0 hT hR r_x0
