section GTT
variable {S : ZS} {x0 ru rw fa tb ab bb : Nat} {m : Int → Int} {sd rt ps kw kb ko cs kd fl rk to bc tk : Int} {o : Int32 × ZS}
/-- gathered: with castling the square is the king's -/
def toC (sd cs to : Int) : Int := if cs = 0 then to else 4 + 56 * sd + cs
theorem p_gather (hS : SRr S x0 ru rw fa tb ab bb m sd rt ps kw kb) (hL : FLD S x0 cs kd fl rk to bc tk) (hko : ko = if sd = 0 then kw else kb) (hM : MBd m) (hr : 0 ≤ rt ∧ rt ≤ 15) (hs2 : sd = 0 ∨ sd = 1) (hcs : cs = 0 ∨ cs = 2 ∨ cs = -2) (hto : cs = 0 → 0 ≤ to ∧ to ≤ 63) (hbc : 0 ≤ bc ∧ bc ≤ 5) (hkd : 0 ≤ kd ∧ kd ≤ 6) (htk : -1 ≤ tk ∧ tk ≤ 1) (hf : f_X8_gather x0 bb S = some o) : GTi S o.2 x0 ru rw fa tb ab bb m sd rt ps kw kb ko cs kd fl rk (toC sd cs to) bc tk 64 := by
  have hf : f_X8_gather_0 x0 bb S = some o := hf
  have z0 : (0 : Int32).toInt = 0 := rfl
  have z4 : (4 : Int32).toInt = 4 := rfl
  have z60 : (60 : Int32).toInt = 60 := rfl
  obtain ⟨l2, l3, l6, l7⟩ := id hL
  have k8 : zK S x0 = 8 := hS.2.1.1
  have hT := hS.1.1.1
  have g3 : (zI S 3 bb).toInt = sd := hS.1.1.2.2.2.2.2.2.2.1
  have bx : bb ≠ x0 := fun e => by have := hS.1.1.2.2.2.1.1; rw [e, k8] at this; exact absurd this (by decide)
  have hto2 : 0 ≤ toC sd cs to ∧ toC sd cs to ≤ 63 := by
    unfold toC
    split
    · exact hto (by assumption)
    · omega
  unfold f_X8_gather_0 at hf
  obtain ⟨-, hf⟩ := m_chkE hf
  obtain ⟨S1, e_S1, hf⟩ := m_bndE hf
  have x1 : SXf S S1 x0 := sx_I e_S1
  have T1 : ZT S1 := e_S1.symm ▸ zt_I hT k8 (by decide) (show (0 : Int) ≤ (0 : Int32).toInt ∧ (0 : Int32).toInt ≤ (64 : Int) by decide)
  have R1 := sr_m hS T1 (mtf_x x1)
  have o1 : ∀ j, j ≠ 11 → zI S1 j x0 = zI S j x0 := fun j hj => by rw [e_S1, zI_j hj]
  have i11 : (zI S1 11 x0).toInt = 0 := by rw [e_S1, zI_self]; rfl
  have s3 : (zI S1 3 bb).toInt = sd := by rw [x1.2.2.2.2.2 3 bb bx]; exact g3
  have fin : ∀ t0 : Int32, t0.toInt = 4 + 56 * sd → f_X8_gather_18 x0 bb t0 S1 = some o → GTi S o.2 x0 ru rw fa tb ab bb m sd rt ps kw kb ko cs kd fl rk (toC sd cs to) bc tk 64 := by
    intro t0 ht hf
    unfold f_X8_gather_18 at hf
    obtain ⟨-, hf⟩ := m_chkE hf
    rcases m_ifE hf with ⟨c, hf⟩ | ⟨c, hf⟩
    · have c0 : cs = 0 := by rw [← l2, ← o1 2 (by decide), c]; rfl
      have et : toC sd cs to = to := if_pos c0
      unfold f_X8_gather_36 at hf
      rw [et]
      rw [et] at hto2
      refine gt_38 hko hM hr hs2 hto2 hbc hkd htk ht mFuel 0 S1 (by decide) ⟨R1, mtf_x x1, ?_, o1 9 (by decide), ?_, fun key hk => absurd hk (Nat.not_lt_zero _)⟩ hf
      · unfold FLD
        rw [o1 2 (by decide), o1 3 (by decide), o1 4 (by decide), o1 5 (by decide), o1 8 (by decide), o1 6 (by decide), o1 7 (by decide)]
        exact hL
      · rw [i11]; rfl
    · have c0 : cs ≠ 0 := fun h => c (Int32.toInt_inj.1 (by rw [o1 2 (by decide), l2, h]; rfl))
      have et : toC sd cs to = 4 + 56 * sd + cs := if_neg c0
      obtain ⟨-, hf⟩ := m_chkE hf
      obtain ⟨v1, e1, hf⟩ := m_bndE hf
      obtain ⟨-, hf⟩ := m_chkE hf
      obtain ⟨S2, e2, hf⟩ := m_bndE hf
      have q2 : (zI S1 2 x0).toInt = cs := by rw [o1 2 (by decide)]; exact l2
      have t1 : v1.toInt = 4 + 56 * sd + cs := by
        have := ti_add (c := v1) (a := t0) (b := zI S1 2 x0) e1 rfl rfl (by omega) (by omega)
        omega
      have k81 : zK S1 x0 = 8 := R1.2.1.1
      have T2 : ZT S2 := e2.symm ▸ zt_I T1 k81 (by decide) (show (-1 : Int) ≤ v1.toInt ∧ v1.toInt ≤ (63 : Int) by omega)
      have x2 : SXf S1 S2 x0 := sx_I e2
      have R2 := sr_m R1 T2 (mtf_x x2)
      have o2 : ∀ j, j ≠ 6 → zI S2 j x0 = zI S1 j x0 := fun j hj => by rw [e2, zI_j hj]
      unfold f_X8_gather_36 at hf
      rw [et]
      rw [et] at hto2
      refine gt_38 hko hM hr hs2 hto2 hbc hkd htk ht mFuel 0 S2 (by decide) ⟨R2, mtf_t (mtf_x x1) (mtf_x x2), ⟨by rw [o2 2 (by decide)]; exact q2, fun h => absurd h c0, by rw [e2, zI_self]; exact t1, by rw [o2 7 (by decide), o1 7 (by decide)]; exact l7⟩, by rw [o2 9 (by decide), o1 9 (by decide)], ?_, fun key hk => absurd hk (Nat.not_lt_zero _)⟩ hf
      rw [o2 11 (by decide), i11]; rfl
  obtain ⟨-, hf⟩ := m_chkE hf
  rcases m_ifE hf with ⟨c1, hf⟩ | ⟨c1, hf⟩
  · skip
    replace c1 := ti_eqP (a := (zI S1 3 bb)) (b := (0 : Int32)) c1 rfl (show (0 : Int32).toInt = 0 from rfl)
    exact fin 4 (by omega) hf
  · skip
    replace c1 := ti_eqN (a := (zI S1 3 bb)) (b := (0 : Int32)) c1 rfl (show (0 : Int32).toInt = 0 from rfl)
    have b3 := hS.1.1.2.2.2.2.2.1.2
    exact fin 60 (by omega) hf
/-- + or # behind a word -/
def ckO (u : List Int) : Int := if wA u ((u.length : Int) - 1) = 43 ∨ wA u ((u.length : Int) - 1) = 35 then wA u ((u.length : Int) - 1) else 0
def ckW (u : List Int) : List Int := if wA u ((u.length : Int) - 1) = 43 ∨ wA u ((u.length : Int) - 1) = 35 then u.take (u.length - 1) else u
variable {x1 : Nat} {ch : Int → Int} {S0 : ZS}
theorem cw_87 {u : List Int} {t0 : Int32} (hC : CPi S0 S x0 x1 rw ch u) (hu : u.length ≤ 8) (ht : 0 ≤ t0.toInt ∧ t0.toInt ≤ 65535) (hnz : t0.toInt ≠ 0 → 0 < u.length) (hf : d_X8_copyWhole_87 x0 t0 x0 S = some o) : ZT o.2 ∧ MTF S o.2 x0 rw tb ab fa ∧ (zI o.2 9 x0).toInt = t0.toInt ∧ RWL o.2 rw (if t0.toInt = 0 then u else u.take (u.length - 1)) := by
  obtain ⟨hT, hF, k0, hP, k6, hr, kt, hne, hch, hw⟩ := id hC
  have nx : rw ≠ x0 := fun e => by rw [← e, k6] at k0; exact absurd k0 (by decide)
  unfold d_X8_copyWhole_87 at hf
  obtain ⟨-, hf⟩ := m_chkE hf
  obtain ⟨-, hf⟩ := m_chkE hf
  obtain ⟨S1, e_S1, hf⟩ := m_bndE hf
  have x1f : SXf S S1 x0 := sx_I e_S1
  have P1 : zP S1 1 x0 = some rw := by rw [x1f.2.1]; exact hP
  have T1 : ZT S1 := e_S1.symm ▸ zt_I hT k0 (by decide) (show (0 : Int) ≤ t0.toInt ∧ t0.toInt ≤ (65535 : Int) by omega)
  have w1 := sx_rwl x1f nx hw
  have i9 : zI S1 9 x0 = t0 := by rw [e_S1]; exact zI_self _ _ _ _
  obtain ⟨-, hf⟩ := m_chkE hf
  rcases m_ifE hf with ⟨c1, hf⟩ | ⟨c1, hf⟩
  · skip
    replace c1 := ti_eqP (a := (zI S1 9 x0)) (b := (0 : Int32)) c1 rfl (show (0 : Int32).toInt = 0 from rfl)
    unfold d_X8_copyWhole_113 at hf
    cases hf
    try dsimp only
    rw [i9] at c1
    exact ⟨T1, mtf_x x1f, by rw [i9], by rw [if_pos c1]; exact w1⟩
  · skip
    replace c1 := ti_eqN (a := (zI S1 9 x0)) (b := (0 : Int32)) c1 rfl (show (0 : Int32).toInt = 0 from rfl)
    obtain ⟨-, hf⟩ := m_chkE hf
    replace hf := m_calY hf P1
    obtain ⟨-, hf⟩ := m_chkE hf
    replace hf := m_calY hf P1
    obtain ⟨-, hf⟩ := m_chkE hf
    obtain ⟨r4, h_r4, hf⟩ := m_calR hf (fun _ h => ro_X6_size h)
    dsimp only at hf
    have p_r4 := pc_X6_size h_r4
    dsimp only at p_r4
    have q4 : r4.toInt = (u.length : Int) := by rw [p_r4]; exact w1.1
    obtain ⟨-, hf⟩ := m_chkE hf
    obtain ⟨v5, e_v5, hf⟩ := m_bndE hf
    have t_v5 : v5.toInt = r4.toInt - 1 := ti_sub e_v5 rfl (show (1 : Int32).toInt = 1 from rfl) (by omega) (by omega)
    obtain ⟨-, hf⟩ := m_chkE hf
    obtain ⟨⟨r6, S6c⟩, h_r6, hf⟩ := m_calE hf
    dsimp only at hf
    have c1n : t0.toInt ≠ 0 := by rw [i9] at c1; exact c1
    have hn := hnz c1n
    have T6 : ZT S6c := (ok_of (t_f_X6_keep (SZ := S1) T1 (a7_0 S1) (by rw [x1f.1]; exact k6) (by rw [hr]; decide)) h_r6).1
    obtain ⟨g1, g2, -⟩ := p_keep w1 (by omega) h_r6
    obtain ⟨-, hf⟩ := m_chkE hf
    unfold d_X8_copyWhole_113 at hf
    cases hf
    try dsimp only
    refine ⟨T6, mtf_t (mtf_x x1f) (mtf_r g2), ?_, ?_⟩
    · rw [(g2.2.1 x0 9 (by rw [x1f.1, k0]; decide) (fun e => nx e.symm)).1, i9]
    · rw [if_neg c1n, show u.length - 1 = v5.toInt.toNat by omega]
      exact g1
theorem rwl_ex {S : ZS} {a : Nat} (hT : ZT S) (hk : zK S a = 6) : ∃ w, RWL S a w := by
  obtain ⟨b, hb, hb2, hl, -⟩ := hT.2.1 a hk
  refine ⟨(List.range (zI S 1 a).toInt.toNat).map (fun (i : Nat) => rwC S a (i : Int)), ?_, fun i => ?_⟩
  · rw [List.length_map, List.length_range]
    omega
  · by_cases c : 0 ≤ i ∧ i < (zI S 1 a).toInt
    · unfold wA
      rw [if_pos c.1, List.getD_eq_getElem?_getD, List.getElem?_map, List.getElem?_range (by omega)]
      show rwC S a i = rwC S a ((i.toNat : Nat) : Int)
      congr 1
      omega
    · rw [rw_out (by omega), wA_out (by rw [List.length_map, List.length_range]; omega)]
theorem cw_48 {u : List Int} (hC : CPi S0 S x0 x1 rw ch u) (hu : u.length ≤ 8) (hf : d_X8_copyWhole_48 x0 S = some o) : ZT o.2 ∧ MTF S0 o.2 x0 rw tb ab fa ∧ (zI o.2 9 x0).toInt = ckO u ∧ RWL o.2 rw (ckW u) := by
  obtain ⟨hT, hF, k0, hP, k6, hr, kt, hne, hch, hw⟩ := id hC
  have z0 : (0 : Int32).toInt = 0 := rfl
  have hz : wA u ((u.length : Int) - 1) ≠ 0 → 0 < u.length := fun h => by
    apply Classical.byContradiction
    intro h2
    exact h (wA_out (Or.inl (by omega)))
  unfold d_X8_copyWhole_48 at hf
  obtain ⟨-, hf⟩ := m_chkE hf
  replace hf := m_calY hf hP
  obtain ⟨-, hf⟩ := m_chkE hf
  replace hf := m_calY hf hP
  obtain ⟨-, hf⟩ := m_chkE hf
  obtain ⟨r3, h_r3, hf⟩ := m_calR hf (fun _ h => ro_X6_size h)
  dsimp only at hf
  have p_r3 := pc_X6_size h_r3
  dsimp only at p_r3
  have q3 : r3.toInt = (u.length : Int) := by rw [p_r3]; exact hw.1
  obtain ⟨-, hf⟩ := m_chkE hf
  obtain ⟨v4, e_v4, hf⟩ := m_bndE hf
  have t_v4 : v4.toInt = r3.toInt - 1 := ti_sub e_v4 rfl (show (1 : Int32).toInt = 1 from rfl) (by omega) (by omega)
  obtain ⟨-, hf⟩ := m_chkE hf
  obtain ⟨r5, h_r5, hf⟩ := m_calR hf (fun _ h => ro_X6_at h)
  dsimp only at hf
  have p_r5 := pc_X6_at h_r5
  dsimp only at p_r5
  rw [hw.2, t_v4, q3] at p_r5
  obtain ⟨-, hf⟩ := m_chkE hf
  rcases m_ifE hf with ⟨c1, hf⟩ | ⟨c1, hf⟩
  · skip
    replace c1 := ti_eqP (a := r5) (b := (43 : Int32)) c1 rfl (show (43 : Int32).toInt = 43 from rfl)
    unfold d_X8_copyWhole_81 at hf
    have hc : wA u ((u.length : Int) - 1) = 43 ∨ wA u ((u.length : Int) - 1) = 35 := by omega
    obtain ⟨g1, g2, g3, g4⟩ := cw_87 (tb := tb) (ab := ab) (fa := fa) hC hu (by omega) (fun h => hz (by omega)) hf
    have eO : ckO u = wA u ((u.length : Int) - 1) := if_pos hc
    have eW : ckW u = u.take (u.length - 1) := if_pos hc
    rw [if_neg (by omega)] at g4
    rw [eO, eW]
    exact ⟨g1, mtf_t (mtf_r hF) g2, by omega, g4⟩
  · skip
    replace c1 := ti_eqN (a := r5) (b := (43 : Int32)) c1 rfl (show (43 : Int32).toInt = 43 from rfl)
    rcases m_ifE hf with ⟨c2, hf⟩ | ⟨c2, hf⟩
    · skip
      replace c2 := ti_eqP (a := r5) (b := (35 : Int32)) c2 rfl (show (35 : Int32).toInt = 35 from rfl)
      unfold d_X8_copyWhole_81 at hf
      have hc : wA u ((u.length : Int) - 1) = 43 ∨ wA u ((u.length : Int) - 1) = 35 := by omega
      obtain ⟨g1, g2, g3, g4⟩ := cw_87 (tb := tb) (ab := ab) (fa := fa) hC hu (by omega) (fun h => hz (by omega)) hf
      have eO : ckO u = wA u ((u.length : Int) - 1) := if_pos hc
      have eW : ckW u = u.take (u.length - 1) := if_pos hc
      rw [if_neg (by omega)] at g4
      rw [eO, eW]
      exact ⟨g1, mtf_t (mtf_r hF) g2, by omega, g4⟩
    · skip
      replace c2 := ti_eqN (a := r5) (b := (35 : Int32)) c2 rfl (show (35 : Int32).toInt = 35 from rfl)
      have hc : ¬ (wA u ((u.length : Int) - 1) = 43 ∨ wA u ((u.length : Int) - 1) = 35) := by omega
      obtain ⟨g1, g2, g3, g4⟩ := cw_87 (tb := tb) (ab := ab) (fa := fa) hC hu (by decide) (fun h => absurd rfl h) hf
      have eO : ckO u = 0 := if_neg hc
      have eW : ckW u = u := if_neg hc
      rw [if_pos z0] at g4
      rw [eO, eW]
      exact ⟨g1, mtf_t (mtf_r hF) g2, g3, g4⟩
theorem p_copyBare {x2 x3 : Int32} (hS : SRr S x0 ru rw fa tb ab bb m sd rt ps kw kb) (kt : zK S x1 = 6) (hne : x1 ≠ rw) (hch : rwC S x1 = ch) (h2 : 0 ≤ x2.toInt ∧ x2.toInt ≤ 90000) (h3 : 0 ≤ x3.toInt ∧ x3.toInt ≤ 90000) (hf : d_X8_copyBare x0 x1 x2 x3 S = some o) : ZT o.2 ∧ MTF S o.2 x0 rw tb ab fa ∧ RWL o.2 rw ((txF true ch x2.toInt (x3.toInt - x2.toInt).toNat).take 8) := by
  have hf : d_X8_copyBare_0 x0 x1 x2 x3 S = some o := hf
  obtain ⟨hC, ⟨k8, p0, p1, p10⟩, ⟨k6, hrc⟩, -⟩ := id hS
  have hT := hC.1.1
  have z0 : (0 : Int32).toInt = 0 := rfl
  unfold d_X8_copyBare_0 at hf
  obtain ⟨-, hf⟩ := m_chkE hf
  replace hf := m_calY hf p1
  obtain ⟨-, hf⟩ := m_chkE hf
  obtain ⟨⟨r2, S2c⟩, h_r2, hf⟩ := m_calE hf
  dsimp only at hf
  obtain ⟨-, hf⟩ := m_chkE hf
  have T2 : ZT S2c := (ok_of (t_f_X6_keep (SZ := S) hT (a7_0 S) k6 (by rw [hrc]; decide)) h_r2).1
  obtain ⟨w0, hw0⟩ := rwl_ex hT k6
  obtain ⟨g1, g2, -⟩ := p_keep hw0 (by decide) h_r2
  have e0 : w0.take (0 : Int32).toInt.toNat = [] := rfl
  rw [e0] at g1
  have nx : x0 ≠ rw := fun e => by rw [e, k6] at k8; exact absurd k8 (by decide)
  have C2 : CPi S S2c x0 x1 rw ch [] := ⟨T2, g2, by rw [(g2.1 x0 (by rw [k8]; decide)).1]; exact k8, by rw [(g2.2.1 x0 1 (by rw [k8]; decide) nx).2]; exact p1, by rw [(g2.1 rw (by rw [k6]; decide)).1]; exact k6, hrc, by rw [(g2.1 x1 (by rw [kt]; decide)).1]; exact kt, hne, by rw [rwf_rw g2 kt hne]; exact hch, g1⟩
  have key := cb_11 (x0 := x0) (x1 := x1) (rw := rw) (ch := ch) (S0 := S) (by omega) mFuel x2 S2c [] C2 (by decide) (by omega) hf
  rw [List.nil_append] at key
  exact ⟨key.1, mtf_r key.2.1, key.2.2.2.2.2.2.2.2.2⟩
theorem p_copyWhole {x2 x3 : Int32} (hS : SRr S x0 ru rw fa tb ab bb m sd rt ps kw kb) (kt : zK S x1 = 6) (hne : x1 ≠ rw) (hch : rwC S x1 = ch) (h2 : 0 ≤ x2.toInt ∧ x2.toInt ≤ 90000) (h3 : 0 ≤ x3.toInt ∧ x3.toInt ≤ 90000) (hf : d_X8_copyWhole x0 x1 x2 x3 S = some o) : ZT o.2 ∧ MTF S o.2 x0 rw tb ab fa ∧ (zI o.2 9 x0).toInt = ckO ((txF false ch x2.toInt (x3.toInt - x2.toInt).toNat).take 8) ∧ RWL o.2 rw (ckW ((txF false ch x2.toInt (x3.toInt - x2.toInt).toNat).take 8)) := by
  have hf : d_X8_copyWhole_0 x0 x1 x2 x3 S = some o := hf
  obtain ⟨hC, ⟨k8, p0, p1, p10⟩, ⟨k6, hrc⟩, -⟩ := id hS
  have hT := hC.1.1
  have z0 : (0 : Int32).toInt = 0 := rfl
  unfold d_X8_copyWhole_0 at hf
  obtain ⟨-, hf⟩ := m_chkE hf
  replace hf := m_calY hf p1
  obtain ⟨-, hf⟩ := m_chkE hf
  obtain ⟨⟨r2, S2c⟩, h_r2, hf⟩ := m_calE hf
  dsimp only at hf
  obtain ⟨-, hf⟩ := m_chkE hf
  have T2 : ZT S2c := (ok_of (t_f_X6_keep (SZ := S) hT (a7_0 S) k6 (by rw [hrc]; decide)) h_r2).1
  obtain ⟨w0, hw0⟩ := rwl_ex hT k6
  obtain ⟨g1, g2, -⟩ := p_keep hw0 (by decide) h_r2
  have e0 : w0.take (0 : Int32).toInt.toNat = [] := rfl
  rw [e0] at g1
  have nx : x0 ≠ rw := fun e => by rw [e, k6] at k8; exact absurd k8 (by decide)
  have C2 : CPi S S2c x0 x1 rw ch [] := ⟨T2, g2, by rw [(g2.1 x0 (by rw [k8]; decide)).1]; exact k8, by rw [(g2.2.1 x0 1 (by rw [k8]; decide) nx).2]; exact p1, by rw [(g2.1 rw (by rw [k6]; decide)).1]; exact k6, hrc, by rw [(g2.1 x1 (by rw [kt]; decide)).1]; exact kt, hne, by rw [rwf_rw g2 kt hne]; exact hch, g1⟩
  have key := cw_11 (G := fun S9 u => ZT S9 ∧ MTF S S9 x0 rw tb ab fa ∧ (zI S9 9 x0).toInt = ckO u ∧ RWL S9 rw (ckW u)) (x0 := x0) (x1 := x1) (rw := rw) (ch := ch) (S0 := S) (by omega) mFuel x2 S2c [] C2 (by decide) (by omega) (fun S3 C3 hf => ?_) hf
  · rw [List.nil_append] at key
    exact key
  · generalize hu : ([] ++ txF false ch x2.toInt (x3.toInt - x2.toInt).toNat).take 8 = u at C3 ⊢
    have hul : u.length ≤ 8 := by rw [← hu, List.length_take]; omega
    exact cw_48 C3 hul hf
end GTT
