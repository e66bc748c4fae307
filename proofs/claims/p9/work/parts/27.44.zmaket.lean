def zT1 (S : ZS) : ZS := zsP (zRw (zsNewO S (zt S) 10 2)) 0 (zt S) (some (zt S + 1))
def zTg (S : ZS) : ZS := zsP (zRw (zT1 S)) 1 (zt S) (some (zt S + 1 + 1))
theorem init10 (S : ZS) : d_X10_init (zt S) (zsNewO S (zt S) 10 2) = some (0, zTg S) := by
  have hk : Ok (d_X10_init_0 (zt S) (zsNewO S (zt S) 10 2)) (fun o => o = (0, zTg S)) := by
    unfold d_X10_init_0
    have kq : zK (zsNewO S (zt S) 10 2) (zt S) = 10 := zK_q
    refine ok_bnd (fun q1 e1 => ok_bnd (fun S2 e2 => ?_))
    have t1 : q1 = zt S + 1 := e1
    have k2 : zK S2 q1 = 6 := by rw [e2]; exact zK_q
    have k2' : zK S2 (zt S) = 10 := by rw [e2, zK_n (by omega)]; exact kq
    refine ok_calR (init6 k2) (ok_chk ⟨rfl, rfl⟩ (ok_chk k2' (ok_bnd (fun S6 e6 => ?_))))
    have e : S6 = zT1 S := by rw [e6, e2, e1]; rfl
    have k6 : zK S6 (zt S) = 10 := by rw [e6]; exact k2'
    have t6 : zt S6 = zt S + 1 + 1 := by rw [e]; rfl
    refine ok_bnd (fun q7 e7 => ok_bnd (fun S8 e8 => ?_))
    have k8 : zK S8 q7 = 6 := by rw [e8]; exact zK_q
    have k8' : zK S8 (zt S) = 10 := by rw [e8, zK_n (by omega)]; exact k6
    refine ok_calR (init6 k8) (ok_chk ⟨rfl, rfl⟩ (ok_chk k8' (ok_bnd (fun S12 e12 => ok_ret ?_))))
    show (0, S12) = (0, zTg S)
    rw [e12, e8, e7, e]
    rfl
  obtain ⟨r, h1, h2⟩ := hk
  show d_X10_init_0 _ _ = _
  rw [h1, h2]
theorem rw_I {S : ZS} {j a : Nat} (h : a ≠ zt S) : zI (zRw S) j a = zI S j a := by
  unfold zRw
  rw [zI_b h]
  show zI (zsNewO S (zt S) 6 2) j a = _
  rw [zI_n h]
theorem rw_P {S : ZS} {j a : Nat} (h : a ≠ zt S) : zP (zRw S) j a = zP S j a := by
  show zP (zsP (zsNewO S (zt S) 6 2) 0 (zt S) (some (zc S))) j a = _
  rw [zP_b h, zP_n h]
theorem rw_K {S : ZS} {a : Nat} (h : a ≠ zt S) : zK (zRw S) a = zK S a := by
  show zK (zsNewO S (zt S) 6 2) a = _
  rw [zK_n h]
theorem rw_q {S : ZS} : zK (zRw S) (zt S) = 6 ∧ zP (zRw S) 0 (zt S) = some (zc S) ∧ zI (zRw S) 1 (zt S) = 0 := by
  refine ⟨?_, ?_, ?_⟩
  · show zK (zsNewO S (zt S) 6 2) (zt S) = _
    exact zK_q
  · show zP (zsP (zsNewO S (zt S) 6 2) 0 (zt S) (some (zc S))) 0 (zt S) = _
    exact zP_s
  · unfold zRw
    exact zI_self _ _ _ _
theorem tg_f (S : ZS) : (∀ a, ¬ (a = zt S ∨ a = zt S + 1 ∨ a = zt S + 2) → zK (zTg S) a = zK S a) ∧ (∀ a j, ¬ (a = zt S ∨ a = zt S + 1 ∨ a = zt S + 2) → zI (zTg S) j a = zI S j a) ∧ (∀ a j, ¬ (a = zt S ∨ a = zt S + 1 ∨ a = zt S + 2) → zP (zTg S) j a = zP S j a) ∧ zK (zTg S) (zt S) = 10 ∧ (zK (zTg S) (zt S + 1) = 6 ∧ zP (zTg S) 0 (zt S + 1) = some (zc S) ∧ zI (zTg S) 1 (zt S + 1) = 0) ∧ (zK (zTg S) (zt S + 2) = 6 ∧ zP (zTg S) 0 (zt S + 2) = some (zc S) ∧ zI (zTg S) 1 (zt S + 2) = 0) ∧ zP (zTg S) 0 (zt S) = some (zt S + 1) ∧ zP (zTg S) 1 (zt S) = some (zt S + 2) ∧ ∀ j, j ≠ 0 → j ≠ 1 → zP (zTg S) j (zt S) = none := by
  have t1 : zt (zT1 S) = zt S + 2 := by
    have a2 : zt (zT1 S) = zt (zRw (zsNewO S (zt S) 10 2)) := rfl
    rw [a2, rw_t]
    rfl
  have t0 : zt (zsNewO S (zt S) 10 2) = zt S + 1 := rfl
  have c1 : zc (zT1 S) = zc S := by
    unfold zT1
    rw [(e_P _ _ _ _).2.2.2, (rw_e _).2.2.2, (e_O _ _ _ _).2.2.2]
  have c0 : zc (zsNewO S (zt S) 10 2) = zc S := rfl
  have K1 : ∀ a, a ≠ zt S + 2 → zK (zTg S) a = zK (zRw (zsNewO S (zt S) 10 2)) a := fun a h => by
    show zK (zRw (zT1 S)) a = _
    rw [rw_K (by rw [t1]; exact h)]
    unfold zT1
    rfl
  have I1 : ∀ a j, a ≠ zt S + 2 → zI (zTg S) j a = zI (zRw (zsNewO S (zt S) 10 2)) j a := fun a j h => by
    show zI (zRw (zT1 S)) j a = _
    rw [rw_I (by rw [t1]; exact h)]
    unfold zT1
    rfl
  have q2 := rw_q (S := zT1 S)
  have q1 := rw_q (S := zsNewO S (zt S) 10 2)
  rw [t1, c1] at q2
  rw [t0, c0] at q1
  refine ⟨fun a h => ?_, fun a j h => ?_, fun a j h => ?_, ?_, ⟨?_, ?_, ?_⟩, ⟨q2.1, ?_, q2.2.2⟩, ?_, ?_, fun j h0 h1 => ?_⟩
  · rw [K1 a (by omega), rw_K (by rw [t0]; omega), zK_n (by omega)]
  · rw [I1 a j (by omega), rw_I (by rw [t0]; omega), zI_n (by omega)]
  · unfold zTg
    rw [zP_b (by omega), rw_P (by rw [t1]; omega)]
    unfold zT1
    rw [zP_b (by omega), rw_P (by rw [t0]; omega), zP_n (by omega)]
  · rw [K1 _ (by omega), rw_K (by rw [t0]; omega), zK_q]
  · rw [K1 _ (by omega)]; exact q1.1
  · unfold zTg
    rw [zP_b (by omega), rw_P (by rw [t1]; omega)]
    unfold zT1
    rw [zP_b (by omega)]; exact q1.2.1
  · rw [I1 _ _ (by omega)]; exact q1.2.2
  · unfold zTg
    rw [zP_b (by omega)]; exact q2.2.1
  · unfold zTg
    rw [zP_j (by decide), rw_P (by rw [t1]; omega)]
    unfold zT1
    exact zP_s
  · unfold zTg
    exact zP_s
  · unfold zTg
    rw [zP_j h1, rw_P (by rw [t1]; omega)]
    unfold zT1
    rw [zP_j h0, rw_P (by rw [t0]; omega), zP_q]
theorem zt_Tg0 {S S' : ZS} (hT : ZT S) (f1 : ∀ a, ¬ (a = zt S ∨ a = zt S + 1 ∨ a = zt S + 2) → zK S' a = zK S a) (f2 : ∀ a j, ¬ (a = zt S ∨ a = zt S + 1 ∨ a = zt S + 2) → zI S' j a = zI S j a) (f3 : ∀ a j, ¬ (a = zt S ∨ a = zt S + 1 ∨ a = zt S + 2) → zP S' j a = zP S j a) (f4 : zK S' (zt S) = 10) (f5 : zK S' (zt S + 1) = 6 ∧ zP S' 0 (zt S + 1) = some (zc S) ∧ zI S' 1 (zt S + 1) = 0) (f6 : zK S' (zt S + 2) = 6 ∧ zP S' 0 (zt S + 2) = some (zc S) ∧ zI S' 1 (zt S + 2) = 0) (f7 : zP S' 0 (zt S) = some (zt S + 1)) (f8 : zP S' 1 (zt S) = some (zt S + 2)) (f9 : ∀ j, j ≠ 0 → j ≠ 1 → zP S' j (zt S) = none) (he : zN S' = zN S ∧ zA S' = zA S ∧ zB S' = zB S ∧ zc S' = zc S ∧ zt S' = zt S + 3 ∧ zu S' = zu S + 6) : ZT S' ∧ PS S' = PS S + 820 := by
  have h11 : 109 ≤ zt S := hT.2.2.2.2.2.2.2.2.2.2.1
  have hc : zc S = 0 := hT.2.2.2.2.2.2.2.2.2.1
  obtain ⟨g1, g2, g3, g4, g5, g6⟩ := he
  refine ⟨zt_ext (N := fun a => a = zt S ∨ a = zt S + 1 ∨ a = zt S + 2) hT f1 f2 f3 (fun a h => by omega) g1 g2 g3 g4 (by omega) (fun a ha => ?_) (fun a h => ?_), ?_⟩
  · rw [g5] at ha
    rw [f1 a (by omega)]
    exact hT.2.2.2.2.1 a (by omega)
  · rcases h with e | e | e
    · rw [e, f4]
      refine ⟨Or.inr (Or.inr rfl), fun j hj => ?_, fun h => by omega, fun j => by rw [bT10]; exact tf_b _, fun j b hb => ?_⟩
      · by_cases e0 : j = 0
        · rw [e0]; exact ⟨zt S + 1, f7, f5.1, rfl⟩
        · by_cases e1 : j = 1
          · rw [e1]; exact ⟨zt S + 2, f8, f6.1, rfl⟩
          · exact absurd (pT10 e0 e1) hj
      · by_cases e0 : j = 0
        · rw [e0, f7] at hb
          cases hb
          rw [e0, rc_new (by omega)]
          decide
        · by_cases e1 : j = 1
          · rw [e1, f8] at hb
            cases hb
            rw [e1, rc_new (by omega)]
            decide
          · rw [f9 j e0 e1] at hb; cases hb
    · rw [e, f5.1]
      refine ⟨Or.inr (Or.inl rfl), fun j hj => absurd (pT6 j) hj, fun _ => ⟨by rw [f5.2.1, hc], by rw [f5.2.2]; rfl⟩, fun j => by rw [bT6]; exact tf_b _, fun j b hb => ?_⟩
      rw [cM6, cT6]; exact ⟨Nat.zero_le _, rc_le _⟩
    · rw [e, f6.1]
      refine ⟨Or.inr (Or.inl rfl), fun j hj => absurd (pT6 j) hj, fun _ => ⟨by rw [f6.2.1, hc], by rw [f6.2.2]; rfl⟩, fun j => by rw [bT6]; exact tf_b _, fun j b hb => ?_⟩
      rw [cM6, cT6]; exact ⟨Nat.zero_le _, rc_le _⟩
  · have e : PS S' = sumN (pot S') (zt S) + pot S' (zt S) + pot S' (zt S + 1) + pot S' (zt S + 2) := by
      unfold PS
      rw [g5]; rfl
    have h0 : pot S' (zt S) = 0 := by unfold pot; rw [f4]; rfl
    have rk : ∀ a, 109 ≤ a → rK a = 410 := fun a ha => by unfold rK; rw [rc_new ha]; rfl
    have h1 : pot S' (zt S + 1) = 410 := by
      unfold pot
      rw [f5.1, if_pos rfl, f5.2.1, hc, rk _ (by omega)]; rfl
    have h2 : pot S' (zt S + 2) = 410 := by
      unfold pot
      rw [f6.1, if_pos rfl, f6.2.1, hc, rk _ (by omega)]; rfl
    rw [e, h0, h1, h2, ps_old (N := fun a => a = zt S ∨ a = zt S + 1 ∨ a = zt S + 2) f1 f3 (fun a h => by omega) g1 g3]
theorem tg_e (S : ZS) : zN (zTg S) = zN S ∧ zA (zTg S) = zA S ∧ zB (zTg S) = zB S ∧ zc (zTg S) = zc S ∧ zt (zTg S) = zt S + 3 ∧ zu (zTg S) = zu S + 6 := by
  have a1 : zt (zTg S) = zt (zRw (zT1 S)) := rfl
  have a2 : zt (zT1 S) = zt (zRw (zsNewO S (zt S) 10 2)) := rfl
  have a3 : zt (zsNewO S (zt S) 10 2) = zt S + 1 := rfl
  have b1 : zu (zTg S) = zu (zRw (zT1 S)) := rfl
  have b2 : zu (zT1 S) = zu (zRw (zsNewO S (zt S) 10 2)) := rfl
  have b3 : zu (zsNewO S (zt S) 10 2) = zu S + 2 := rfl
  have r := rw_e (zT1 S)
  have n := rw_e (zsNewO S (zt S) 10 2)
  have q := e_O S (zt S) 10 2
  refine ⟨?_, ?_, ?_, ?_, ?_, ?_⟩
  · unfold zTg; rw [(e_P _ _ _ _).1, r.1]; unfold zT1; rw [(e_P _ _ _ _).1, n.1, q.1]
  · unfold zTg; rw [(e_P _ _ _ _).2.1, r.2.1]; unfold zT1; rw [(e_P _ _ _ _).2.1, n.2.1, q.2.1]
  · unfold zTg; rw [(e_P _ _ _ _).2.2.1, r.2.2.1]; unfold zT1; rw [(e_P _ _ _ _).2.2.1, n.2.2.1, q.2.2.1]
  · unfold zTg; rw [(e_P _ _ _ _).2.2.2, r.2.2.2]; unfold zT1; rw [(e_P _ _ _ _).2.2.2, n.2.2.2, q.2.2.2]
  · rw [a1, rw_t, a2, rw_t, a3]
  · rw [b1, rw_u, b2, rw_u, b3]
theorem zt_Tg {S : ZS} (hT : ZT S) : ZT (zTg S) ∧ PS (zTg S) = PS S + 820 := by
  obtain ⟨f1, f2, f3, f4, f5, f6, f7, f8, f9⟩ := tg_f S
  exact zt_Tg0 hT f1 f2 f3 f4 f5 f6 f7 f8 f9 (tg_e S)
theorem rp_tag {S : ZS} {b i : Nat} (hT : ZT S) (hk : zK S b = 17) (hb : zB S b i = none) (hi : i < 8) : ZT (zsB (zTg S) b i (some (zt S))) ∧ RP S (zsB (zTg S) b i (some (zt S))) := by
  obtain ⟨f1, f2, f3, f4, f5, f6, f7, f8, f9⟩ := tg_f S
  have nN : ∀ a, zK S a < 18 → ¬ (a = zt S ∨ a = zt S + 1 ∨ a = zt S + 2) := fun a ha h => by
    have := hT.2.2.2.2.1 a (by omega)
    omega
  have hkb : zK (zTg S) b = 17 := by rw [f1 b (nN b (by omega))]; exact hk
  obtain ⟨T, h2⟩ := zt_Tg hT
  obtain ⟨g1, g2, g3, g4, g5, g6⟩ := tg_e S
  refine ⟨zt_B T hkb f4 (Or.inr ⟨rfl, rfl⟩), ⟨?_, fun t => ?_, ⟨fun a h1 h3 => ⟨(f1 a (nN a (by omega))).trans h1, (congrFun g1 a).trans h3, congrFun g2 a⟩, fun r h1 h3 => ⟨(f1 r (nN r (by omega))).trans h1, f2 r 1 (nN r (by omega)), f3 r 0 (nN r (by omega)), fun c _ => ⟨congrFun g1 c, congrFun g2 c⟩⟩⟩⟩⟩
  · have h1 := (ps_B (c := zt S) T (show zB (zTg S) b i = none by rw [g3]; exact hb)).2 hkb hi
    have eu : zu (zsB (zTg S) b i (some (zt S))) = zu (zTg S) := rfl
    have et : zt (zsB (zTg S) b i (some (zt S))) = zt (zTg S) := rfl
    exact ⟨by rw [eu, g6]; omega, by rw [et, g5]; omega, by rw [eu, g6]; omega, by rw [et, g5]; omega⟩
  · refine tz_x hT t (fun a ha => f1 a (nN a ha)) (fun a j ha _ => f3 a j (nN a (by omega))) (fun a ha => ?_) (fun a ha => ⟨f2 a 0 (nN a (by omega)), f2 a 2 (nN a (by omega)), f2 a 3 (nN a (by omega))⟩) (fun a ha => f2 a 3 (nN a (by omega)))
    show va_up (zB (zTg S)) b (va_up (zB (zTg S) b) i (some (zt S))) a = _
    rw [va_up_ne _ _ (fun e => by rw [e, hk] at ha; omega), g3]
