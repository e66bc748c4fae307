/-- the state after a row has got a longer array -/
def zgr (S : ZS) (x0 b n l : Nat) : ZS := zsP (zsD (zsNewA S (zt S) 13 n) b (zt S) 0 0 l) 0 x0 (some (zt S))
theorem zt_grow {S : ZS} {x0 b n l : Nat} (hT : ZT S) (hk : zK S x0 = 6) (hb : zP S 0 x0 = some b) (hn : (zI S 1 x0).toInt ≤ (n : Int)) (hK : n ≤ rK x0) : ZT (zgr S x0 b n l) := by
  obtain ⟨h1, h2, h3, h4, h5, h6, h7, h8, h9, h10, h11⟩ := hT
  have hq : 18 ≤ zK S (zt S) := h5 _ (Nat.le_refl _)
  have nq : ∀ a, zK S a < 18 → a ≠ zt S := fun a ha e => by rw [e] at ha; omega
  have eK : zK (zgr S x0 b n l) = va_up (zK S) (zt S) 13 := rfl
  have eN : zN (zgr S x0 b n l) = va_up (zN S) (zt S) n := rfl
  have eP : zP (zgr S x0 b n l) = va_up (zP S) 0 (va_up (zP S 0) x0 (some (zt S))) := rfl
  have eI : zI (zgr S x0 b n l) = zI S := rfl
  have eB : zB (zgr S x0 b n l) = va_up (zB S) (zt S) (fun _ => none) := rfl
  have et : zt (zgr S x0 b n l) = zt S + 1 := rfl
  have kO : ∀ a, zK S a < 18 → zK (zgr S x0 b n l) a = zK S a := fun a ha => by rw [eK, va_up_ne _ _ (nq a ha)]
  have nO : ∀ a, zK S a < 18 → zN (zgr S x0 b n l) a = zN S a := fun a ha => by rw [eN, va_up_ne _ _ (nq a ha)]
  have kC : ∀ a, zK (zgr S x0 b n l) a < 18 → a = zt S ∨ zK S a < 18 := fun a ha => by
    by_cases e : a = zt S
    · exact Or.inl e
    · rw [eK, va_up_ne _ _ e] at ha; exact Or.inr ha
  have kq : zK (zgr S x0 b n l) (zt S) = 13 := by rw [eK, va_up_self]
  have pO : ∀ j a, ¬ (j = 0 ∧ a = x0) → zP (zgr S x0 b n l) j a = zP S j a := fun j a h => by
    rw [eP]
    by_cases e : j = 0
    · rw [e, va_up_self]; exact va_up_ne _ _ (fun e2 => h ⟨e, e2⟩)
    · rw [va_up_ne _ _ e]
  have pX : zP (zgr S x0 b n l) 0 x0 = some (zt S) := by rw [eP, va_up_self, va_up_self]
  have bO : ∀ a, zK S a < 18 → zB (zgr S x0 b n l) a = zB S a := fun a ha => by rw [eB, va_up_ne _ _ (nq a ha)]
  have cO : ∀ c, (c = 0 ∨ zK S c = 13) → zcap (zgr S x0 b n l) c = zcap S c := fun c hc => by
    unfold zcap
    rcases hc with e | e
    · rw [if_pos e, if_pos e]
    · rw [nO c (by omega)]
  refine ⟨?_, ?_, ?_, ?_, ?_, ?_, ?_, ?_, ?_, ?_, ?_⟩
  · intro a j ha hj
    rcases kC a ha with e | e
    · rw [e, kq] at hj; exact absurd (pT13 j) hj
    · rw [kO a e] at hj ⊢
      have hx : ¬ (j = 0 ∧ a = x0) := fun ⟨e1, e2⟩ => by rw [e1, e2, hk] at hj; exact hj rfl
      rw [pO j a hx]
      obtain ⟨c, c1, c2, c3⟩ := h1 a j e hj
      have hc : zK S c < 18 := by rw [c2]; exact pT_lt _ _ hj
      exact ⟨c, c1, (kO c hc).trans c2, by rw [nO c hc]; exact c3⟩
  · intro a ha
    rcases kC a (by omega) with e | e
    · rw [e, kq] at ha; omega
    · rw [kO a e] at ha
      obtain ⟨c, c1, c2, c3, c4, c5, c6⟩ := h2 a ha
      rw [eI]
      by_cases ex : a = x0
      · rw [ex] at c3 c5 ⊢
        refine ⟨zt S, pX, Or.inr kq, c3, ?_, c5, ?_⟩
        · unfold zcap; rw [if_neg (by omega), eN, va_up_self]; exact hn
        · unfold zcap; rw [if_neg (by omega), eN, va_up_self]; exact hK
      · refine ⟨c, (pO 0 a (fun h => ex h.2)).trans c1, ?_, c3, ?_, c5, ?_⟩
        · rcases c2 with f | f
          · exact Or.inl f
          · exact Or.inr ((kO c (by omega)).trans f)
        · rw [cO c c2]; exact c4
        · rw [cO c c2]; exact c6
  · intro a j ha
    rcases kC a ha with e | e
    · rw [e, kq, bT13]; exact tf_b _
    · rw [kO a e, eI]; exact h3 a j e
  · intro a
    refine ⟨fun ha i hi => ?_, fun ha i c hc => ?_, fun ha i c hc => ?_⟩
    · rcases kC a (by omega) with e | e
      · rw [e, kq] at ha; omega
      · rw [kO a e] at ha
        rw [bO a e]
        obtain ⟨c, c1, c2⟩ := (h4 a).1 ha i hi
        exact ⟨c, c1, (kO c (by omega)).trans c2⟩
    · rcases kC a (by omega) with e | e
      · rw [e, kq] at ha; omega
      · rw [kO a e] at ha
        rw [bO a e] at hc
        have := (h4 a).2.1 ha i c hc
        exact (kO c (by omega)).trans this
    · rcases kC a (by omega) with e | e
      · rw [e, kq] at ha; omega
      · rw [kO a e] at ha
        rw [bO a e] at hc
        have := (h4 a).2.2 ha i c hc
        exact (kO c (by omega)).trans this
  · intro a ha
    rw [et] at ha
    rw [eK, va_up_ne _ _ (by omega)]
    exact h5 a (by omega)
  · rw [eK, va_up_ne _ _ (by omega)]; exact h6
  · intro a ha i
    by_cases e : a = zt S
    · rw [e]
      have eA : zA (zgr S x0 b n l) (zt S) = if b = 0 then va_up (zA S) (zt S) (fun _ => 0) (zt S) else va_cpy (va_up (zA S) (zt S) (fun _ => 0) b) (va_up (zA S) (zt S) (fun _ => 0) (zt S)) 0 0 l := by
        show va_up _ (zt S) _ (zt S) = _
        rw [va_up_self]; rfl
      rw [eA, va_up_self]
      by_cases e2 : b = 0
      · rw [if_pos e2]; show (0 : Int) ≤ (0 : Int32).toInt ∧ (0 : Int32).toInt ≤ (65535 : Int); decide
      · rw [if_neg e2]
        have hb13 : zK S b = 13 := by
          obtain ⟨c, c1, c2, -⟩ := h2 x0 hk
          rw [hb] at c1
          cases c1
          exact c2.resolve_left e2
        rw [va_up_ne _ _ (nq b (by omega))]
        unfold va_cpy
        split
        · exact h7 b hb13 _
        · show (0 : Int) ≤ (0 : Int32).toInt ∧ (0 : Int32).toInt ≤ (65535 : Int); decide
    · have e3 : zA (zgr S x0 b n l) a = zA S a := by
        show va_up _ (zt S) _ a = _
        rw [va_up_ne _ _ e]
        show va_up (zA S) (zt S) _ a = _
        rw [va_up_ne _ _ e]
      rw [e3]
      rw [eK, va_up_ne _ _ e] at ha
      exact h7 a ha i
  · intro a j ha c hc
    rcases kC a ha with e | e
    · rw [e, kq, cM13, cT13]; exact ⟨Nat.zero_le _, rc_le _⟩
    · rw [kO a e]
      by_cases ex : j = 0 ∧ a = x0
      · rw [ex.2, hk, cM6, cT6]; exact ⟨Nat.zero_le _, rc_le _⟩
      · rw [pO j a ex] at hc; exact h8 a j e c hc
  · intro a ha c hc i hi
    rcases kC a (by omega) with e | e
    · rw [e, kq] at ha; omega
    · rw [kO a e] at ha
      rw [pO 4 a (fun h => absurd h.1 (by decide))] at hc
      rw [eI] at hi
      obtain ⟨d, d1, d2, -⟩ := h1 a 4 e (by rw [ha]; decide)
      rw [hc] at d1
      cases d1
      rw [ha] at d2
      rw [bO c (by rw [d2]; decide)]
      exact h9 a ha c hc i hi
  · exact h10
  · refine ⟨by show 109 ≤ zt S + 1; omega, fun a a' c ka ka' pa pa' => ?_⟩
    have ka2 : a ≠ zt S := fun e => by rw [e, kq] at ka; omega
    have ka2' : a' ≠ zt S := fun e => by rw [e, kq] at ka'; omega
    rw [eK, va_up_ne _ _ ka2] at ka
    rw [eK, va_up_ne _ _ ka2'] at ka'
    have nz : ∀ d, zK S d = 6 → d ≠ x0 → zP (zgr S x0 b n l) 0 d = some c → zP S 0 d = some c ∧ c ≠ zt S := fun d kd hd hp => by
      rw [pO 0 d (fun h => hd h.2)] at hp
      refine ⟨hp, fun e => ?_⟩
      obtain ⟨c', q1, q2, -⟩ := h2 d kd
      rw [hp] at q1
      cases q1
      rw [e] at q2
      rcases q2 with q2 | q2
      · omega
      · omega
    have px : zP (zgr S x0 b n l) 0 x0 = some (zt S) := by
      show va_up (zP S) 0 (va_up (zP S 0) x0 (some (zt S))) 0 x0 = _
      rw [va_up_self, va_up_self]
    by_cases ea : a = x0
    · by_cases ea' : a' = x0
      · right; rw [ea, ea']
      · have h1 := nz a' ka' ea' pa'
        rw [ea, px] at pa
        cases pa
        exact absurd rfl h1.2
    · have h1 := nz a ka ea pa
      by_cases ea' : a' = x0
      · rw [ea', px] at pa'
        cases pa'
        exact absurd rfl h1.2
      · exact h11.2 a a' c ka ka' h1.1 (nz a' ka' ea' pa').1
theorem ps_grow {S : ZS} {x0 b n l : Nat} (hT : ZT S) (hk : zK S x0 = 6) (hb : zP S 0 x0 = some b) (hc : zcap S b ≤ n) (hK : n ≤ rK x0) : PS (zgr S x0 b n l) + n = PS S + zcap S b := by
  have hq : 18 ≤ zK S (zt S) := hT.2.2.2.2.1 _ (Nat.le_refl _)
  have nq : ∀ a, zK S a < 18 → a ≠ zt S := fun a ha e => by rw [e] at ha; omega
  have eK : zK (zgr S x0 b n l) = va_up (zK S) (zt S) 13 := rfl
  have eN : zN (zgr S x0 b n l) = va_up (zN S) (zt S) n := rfl
  have eP : zP (zgr S x0 b n l) = va_up (zP S) 0 (va_up (zP S 0) x0 (some (zt S))) := rfl
  have eB : zB (zgr S x0 b n l) = va_up (zB S) (zt S) (fun _ => none) := rfl
  have hx : x0 < zt S := by
    apply Classical.byContradiction
    intro h
    have := hT.2.2.2.2.1 x0 (by omega)
    omega
  have h0 : pot (zgr S x0 b n l) (zt S) = 0 := by
    unfold pot
    rw [eK, va_up_self]
    rfl
  have h1 : pot (zgr S x0 b n l) x0 = rK x0 - n := by
    unfold pot
    rw [eK, va_up_ne _ _ (by omega), if_pos hk, eP, va_up_self, va_up_self]
    show rK x0 - zcap _ (zt S) = _
    unfold zcap
    have := hT.2.2.2.2.2.2.2.2.2.2
    rw [if_neg (by omega), eN, va_up_self]
  have h2 : pot S x0 = rK x0 - zcap S b := by
    unfold pot
    rw [if_pos hk, hb]; rfl
  have h3 : ∀ a, a < zt S → a ≠ x0 → pot (zgr S x0 b n l) a = pot S a := by
    intro a ha hne
    unfold pot
    rw [eK, va_up_ne _ _ (by omega), eB, va_up_ne _ _ (by omega), eP, va_up_self, va_up_ne _ _ hne]
    by_cases e : zK S a = 6
    · rw [if_pos e, if_pos e]
      obtain ⟨c, c1, c2, -⟩ := hT.2.1 a e
      rw [c1]
      show rK a - zcap _ c = rK a - zcap S c
      unfold zcap
      rcases c2 with f | f
      · rw [if_pos f, if_pos f]
      · rw [eN, va_up_ne _ _ (nq c (by omega))]
    · rw [if_neg e, if_neg e]
  have hs := sumN_up (f := pot (zgr S x0 b n l)) (g := pot S) (x := x0) (zt S) hx h3
  have e : PS (zgr S x0 b n l) = sumN (pot (zgr S x0 b n l)) (zt S) + pot (zgr S x0 b n l) (zt S) := rfl
  have e2 : PS S = sumN (pot S) (zt S) := rfl
  rw [h1, h2] at hs
  rw [e, h0, e2]
  omega
theorem rpc_grow {SZ S : ZS} {x0 b n l : Nat} (hR : RPc x0 SZ S) (hT : ZT S) (hk : zK S x0 = 6) (hb : zP S 0 x0 = some b) (hc : n = 2 * zcap S b + 8) (hK : n ≤ rK x0) : RPc x0 SZ (zgr S x0 b n l) := by
  have hp := ps_grow (l := l) hT hk hb (by omega) hK
  have eu : zu (zgr S x0 b n l) = zu S + n := rfl
  have et : zt (zgr S x0 b n l) = zt S + 1 := rfl
  have hq : 18 ≤ zK S (zt S) := hT.2.2.2.2.1 _ (Nat.le_refl _)
  have nq : ∀ a, zK S a < 18 → a ≠ zt S := fun a ha e => by rw [e] at ha; omega
  refine rpc_t hR ⟨⟨by rw [eu]; omega, by rw [et]; omega, by rw [eu]; omega, by rw [et]; omega⟩, fun t => ?_, fun a h1 h2 => ⟨?_, ?_, ?_⟩, fun hcx r h1 h2 => ?_⟩
  rotate_left 1
  · show va_up (zK S) (zt S) 13 a = _
    rw [va_up_ne _ _ (nq a (by omega))]; exact h1
  · show va_up (zN S) (zt S) n a = _
    rw [va_up_ne _ _ (nq a (by omega))]; exact h2
  · show va_up _ (zt S) _ a = _
    rw [va_up_ne _ _ (nq a (by omega))]
    show va_up (zA S) (zt S) _ a = _
    rw [va_up_ne _ _ (nq a (by omega))]
  · have hr : r ≠ x0 := fun e => hcx (by rw [← e]; exact h2)
    refine ⟨?_, rfl, ?_, fun c hc2 => ?_⟩
    · show va_up (zK S) (zt S) 13 r = _
      rw [va_up_ne _ _ (nq r (by omega))]; exact h1
    · show va_up (zP S) 0 (va_up (zP S 0) x0 (some (zt S))) 0 r = _
      rw [va_up_self, va_up_ne _ _ hr]
    · have hcz : c ≠ zt S := fun e => by
        obtain ⟨c', q1, q2, -⟩ := hT.2.1 r h1
        rw [hc2] at q1
        cases q1
        rw [e] at q2
        have := hT.2.2.2.2.2.2.2.2.2.2.1
        rcases q2 with q2 | q2 <;> omega
      refine ⟨?_, ?_⟩
      · show va_up (zN S) (zt S) n c = _
        rw [va_up_ne _ _ hcz]
      · show va_up _ (zt S) _ c = _
        rw [va_up_ne _ _ hcz]
        show va_up (zA S) (zt S) _ c = _
        rw [va_up_ne _ _ hcz]
  refine tz_x hT t (fun a ha => ?_) (fun a j ha hj => ?_) (fun a ha => ?_) (fun a ha => ⟨rfl, rfl, rfl⟩) (fun a ha => rfl)
  · show va_up (zK S) (zt S) 13 a = _
    rw [va_up_ne _ _ (nq a ha)]
  · show va_up (zP S) 0 (va_up (zP S 0) x0 (some (zt S))) j a = _
    rw [va_up_ne _ _ (by omega)]
  · show va_up (zB S) (zt S) (fun _ => none) a = _
    rw [va_up_ne _ _ (nq a (by omega))]
theorem rK_ge {a : Nat} : 2 * rL a + 8 ≤ rK a := by
  unfold rL rK
  split
  · omega
  · split <;> omega
theorem rL_le (a : Nat) : rL a ≤ 90000 := by
  unfold rL
  split
  · omega
  · split <;> omega
theorem rK_le (a : Nat) : rK a ≤ 185000 := by
  unfold rK
  split
  · omega
  · split <;> omega
theorem p_d_X6_put_43 {SZ S : ZS} {x0 : Nat} {x1 : Int32} (hT : ZT S) (hR : RPc x0 SZ S) (r_x0 : zK S x0 = 6) (r_x1 : (0 : Int) ≤ x1.toInt ∧ x1.toInt ≤ (65535 : Int)) (q0 : (zI S 1 x0).toInt < (rL x0 : Int)) (q1 : ∀ b, zP S 0 x0 = some b → (zI S 1 x0).toInt < (zcap S b : Int)) : Ok (d_X6_put_43 x0 x1 S) (fun o => ZT o.2 ∧ RPc x0 SZ o.2 ∧ (zI o.2 1 x0).toInt = (zI S 1 x0).toInt + 1 ∧ ∀ a, a ≠ x0 → zI o.2 1 a = zI S 1 a) := by
  unfold d_X6_put_43
  obtain ⟨b, p, d, l0, l1, l2, l3⟩ := hT.2.1 x0 r_x0
  have hq := q1 b p
  have hz := row_nz d (n := (zI S 1 x0).toInt + 1) (by omega) (by omega)
  refine ok_chk r_x0 (ok_calR p (ok_chk r_x0 (ok_chk hz.1 (ok_chk (ti_inR (v := zI S 1 x0) hz.2 l0 (by omega)) ?_))))
  refine ok_bnd (fun S2 e2 => ?_)
  have T2 : ZT S2 := e2 ▸ zt_A13 hT (by rw [nar_c r_x1.1 r_x1.2]; exact r_x1)
  have R2 : RPc x0 SZ S2 := rpc_A hR hT r_x0 p hz.1 e2
  have k2 : zK S2 x0 = 6 := by rw [e2]; exact r_x0
  have i2 : zI S2 = zI S := by rw [e2]; rfl
  have p2 : zP S2 = zP S := by rw [e2]; rfl
  have n2 : zN S2 = zN S := by rw [e2]; rfl
  refine ok_chk k2 (ok_bnd (fun v3 e3 => ?_))
  have t3 : v3.toInt = (zI S 1 x0).toInt + 1 := ti_add e3 (by rw [i2]) (show (1 : Int32).toInt = 1 from rfl) (by have := rL_le x0; omega) (by have := rL_le x0; omega)
  refine ok_chk k2 (ok_bnd (fun S4 e4 => ?_))
  have T4 : ZT S4 := by
    obtain ⟨h1, h2, h3, h4, h5, h6, h7, h8, h9, h10, h11⟩ := T2
    rw [e4]
    refine ⟨h1, ?_, ?_, h4, h5, h6, h7, h8, ?_, h10, h11⟩
    · intro a ha
      obtain ⟨c, c1, c2, c3, c4, c5, c6⟩ := h2 a ha
      by_cases e : a = x0
      · rw [e] at c1 c5 c6 ⊢
        rw [p2, p] at c1
        cases c1
        refine ⟨b, by rw [← p, ← p2]; rfl, c2, ?_, ?_, ?_, c6⟩
        · rw [zI_self]; omega
        · rw [zI_self, t3]
          have : zcap (zsI S2 1 x0 v3) b = zcap S b := by unfold zcap; rw [← n2]; rfl
          rw [this]; omega
        · rw [zI_self]; omega
      · rw [zI_ne e]
        exact ⟨c, c1, c2, c3, c4, c5, c6⟩
    · intro a j ha
      by_cases e : j = 1 ∧ a = x0
      · have k6 : zK (zsI S2 1 x0 v3) x0 = 6 := k2
        rw [e.1, e.2, k6]; exact tf_b _
      · have : zI (zsI S2 1 x0 v3) j a = zI S2 j a := by
          by_cases e1 : j = 1
          · rw [e1]; exact zI_ne (fun e2 => e ⟨e1, e2⟩)
          · show va_up (zI S2) 1 (va_up (zI S2 1) x0 v3) j a = _
            rw [va_up_ne _ _ e1]
        rw [this]; exact h3 a j ha
    · intro a ha c hc i hi
      have : zI (zsI S2 1 x0 v3) 5 a = zI S2 5 a := by
        show va_up (zI S2) 1 (va_up (zI S2 1) x0 v3) 5 a = _
        rw [va_up_ne _ _ (by decide)]
      rw [this] at hi
      exact h9 a ha c hc i hi
  have R4 : RPc x0 SZ S4 := rpc_I R2 T2 k2 e4
  refine ok_ret ⟨T4, R4, ?_, fun a ha => ?_⟩
  · show (zI S4 1 x0).toInt = _
    rw [e4, zI_self, t3]
  · show zI S4 1 a = _
    rw [e4, zI_ne ha, i2]
theorem ofN_w {n : Nat} (h : n ≤ 200000) : (Int32.ofNat n).toInt = (n : Int) := Int32.toInt_ofNat_of_lt (by omega)
theorem fits_ch {v : Int32} (h : (0 : Int) ≤ v.toInt ∧ v.toInt ≤ (65535 : Int)) : fits .char (.int v) = true := by
  have h1 : (0 : Int32) ≤ v := Int32.le_iff_toInt_le.2 h.1
  have h2 : v ≤ (65535 : Int32) := Int32.le_iff_toInt_le.2 h.2
  show ((0 : Int32) ≤ v && v ≤ (65535 : Int32)) = true
  simp [h1, h2]
theorem p_d_X6_put {SZ S : ZS} {x0 : Nat} {x1 : Int32} (hT : ZT S) (hR : RPc x0 SZ S) (r_x0 : zK S x0 = 6) (r_x1 : (0 : Int) ≤ x1.toInt ∧ x1.toInt ≤ (65535 : Int)) (q0 : (zI S 1 x0).toInt < (rL x0 : Int)) : Ok (d_X6_put x0 x1 S) (fun o => ZT o.2 ∧ RPc x0 SZ o.2 ∧ (zI o.2 1 x0).toInt = (zI S 1 x0).toInt + 1 ∧ ∀ a, a ≠ x0 → zI o.2 1 a = zI S 1 a) := by
  show Ok (d_X6_put_0 x0 x1 S) _
  unfold d_X6_put_0
  obtain ⟨b, p, d, l0, l1, l2, l3⟩ := hT.2.1 x0 r_x0
  have hL := rL_le x0
  have hK := rK_le x0
  have hG := @rK_ge x0
  refine ok_chk r_x0 (ok_chk r_x0 (ok_calR p (ok_chk d (ok_bnd (fun v2 e2 => ?_)))))
  have t2 : v2.toInt = (zcap S b : Int) := by rw [e2]; exact ofN_w (by show zcap S b ≤ _; omega)
  refine ok_if (fun c => ?_) (fun c => ?_)
  · replace c := ti_ltP (a := zI S 1 x0) (b := v2) c rfl rfl
    exact p_d_X6_put_43 hT hR r_x0 r_x1 q0 (fun b' hb' => by rw [p] at hb'; cases hb'; omega)
  · replace c := ti_ltN (a := zI S 1 x0) (b := v2) c rfl rfl
    refine ok_chk r_x0 (ok_bnd (fun v3 e3 => ok_bnd (fun v4 e4 => ?_)))
    have t3 : v3.toInt = 2 * (zI S 1 x0).toInt := ti_mul e3 (show (2 : Int32).toInt = 2 from rfl) rfl (by omega) (by omega)
    have t4 : v4.toInt = 2 * (zI S 1 x0).toInt + 8 := ti_add e4 t3 (show (8 : Int32).toInt = 8 from rfl) (by omega) (by omega)
    have n4 : v4.toNatClampNeg = 2 * zcap S b + 8 := by
      have e : v4.toNatClampNeg = v4.toInt.toNat := rfl
      omega
    have hk0 : zK S (zt S) ≥ 18 := hT.2.2.2.2.1 _ (Nat.le_refl _)
    have hx : x0 ≠ zt S := fun e => by rw [e] at r_x0; omega
    have hcb : componentBytes .char = 2 := rfl
    refine ok_chk ⟨fun h => ?_, by rw [n4, hcb]; omega⟩ ?_
    · have := Int32.lt_iff_toInt_lt.1 h
      have z : (0 : Int32).toInt = 0 := rfl
      omega
    · refine ok_bnd (fun q5 e5 => ok_bnd (fun S6 e6 => ?_))
      subst e5
      have k6 : zK S6 x0 = 6 := by rw [e6]; show va_up (zK S) (zt S) 13 x0 = 6; rw [va_up_ne _ _ hx]; exact r_x0
      have i6 : zI S6 = zI S := by rw [e6]; rfl
      have p6 : zP S6 0 x0 = some b := by rw [e6]; exact p
      have kq : zK S6 (zt S) = 13 := by rw [e6]; show va_up (zK S) (zt S) 13 (zt S) = 13; rw [va_up_self]
      have nq : zN S6 (zt S) = 2 * zcap S b + 8 := by rw [e6, n4]; show va_up (zN S) (zt S) _ (zt S) = _; rw [va_up_self]
      have nl : (zI S6 1 x0).toNatClampNeg = zcap S b := by
        have e : (zI S6 1 x0).toNatClampNeg = (zI S6 1 x0).toInt.toNat := rfl
        rw [e, i6]; omega
      refine ok_chk k6 (ok_calR p6 (ok_chk k6 (ok_chk kq (ok_chk ?_ ?_))))
      · by_cases e0 : b = 0
        · left
          refine ⟨e0, ?_⟩
          have : zcap S b = 0 := by unfold zcap; rw [if_pos e0]
          apply Int32.toInt_inj.1
          rw [i6]
          show (zI S 1 x0).toInt = 0
          omega
        · right
          have kb : zK S b = 13 := d.resolve_left e0
          have hbq : b ≠ zt S := fun e => by rw [e] at kb; omega
          refine ⟨?_, e0, ?_, ?_, ?_, ?_⟩
          · rw [e6]; show va_up (zK S) (zt S) 13 b = 13; rw [va_up_ne _ _ hbq]; exact kb
          · intro h
            have := Int32.lt_iff_toInt_lt.1 h
            rw [i6] at this
            have z : (0 : Int32).toInt = 0 := rfl
            omega
          · rw [nl, e6]
            show zcap S b ≤ va_up (zN S) (zt S) _ b
            rw [va_up_ne _ _ hbq]
            unfold zcap
            rw [if_neg e0]
            exact Nat.le_refl _
          · rw [nl, nq]; omega
          · intro i _
            rw [e6]
            show fits .char (.int (va_up (zA S) (zt S) _ b i)) = true
            rw [va_up_ne _ _ hbq]
            exact fits_ch (hT.2.2.2.2.2.2.1 b kb i)
      · refine ok_bnd (fun S10 e10 => ?_)
        have k10 : zK S10 x0 = 6 := by rw [e10]; exact k6
        refine ok_chk k10 (ok_bnd (fun S11 e11 => ?_))
        have e : S11 = zgr S x0 b (2 * zcap S b + 8) (zI S6 1 x0).toNatClampNeg := by
          rw [e11, e10, e6, n4]; rfl
        have T11 : ZT S11 := e ▸ zt_grow hT r_x0 p (by omega) (by omega)
        have R11 : RPc x0 SZ S11 := e ▸ rpc_grow hR hT r_x0 p rfl (by omega)
        have i11 : zI S11 = zI S := by rw [e]; rfl
        have k11 : zK S11 x0 = 6 := by rw [e11]; exact k10
        refine ok_mono (p_d_X6_put_43 (SZ := SZ) (x1 := x1) T11 R11 k11 r_x1 (by rw [i11]; exact q0) (fun b' hb' => ?_)) (fun o h => ?_)
        · have : zP S11 0 x0 = some (zt S) := by rw [e]; show va_up (zP S) 0 (va_up (zP S 0) x0 (some (zt S))) 0 x0 = _; rw [va_up_self, va_up_self]
          rw [this] at hb'
          cases hb'
          have ez : zcap S11 (zt S) = 2 * zcap S b + 8 := by
            have := hT.2.2.2.2.2.2.2.2.2.2
            have e1 : zcap S11 (zt S) = zN S11 (zt S) := if_neg (by omega)
            rw [e1, e]
            show va_up (zN S) (zt S) _ (zt S) = _
            rw [va_up_self]
          rw [ez, i11]; omega
        · rw [i11] at h; exact h
theorem t_d_X6_put {SZ S : ZS} {x0 : Nat} {x1 : Int32} (hT : ZT S) (hR : RP SZ S) (r_x0 : zK S x0 = 6) (r_x1 : (0 : Int) ≤ x1.toInt ∧ x1.toInt ≤ (65535 : Int)) (q0 : (zI S 1 x0).toInt < (rL x0 : Int)) (q1 : rc x0 ≠ 2) : Ok (d_X6_put x0 x1 S) (fun o => ZT o.2 ∧ RP SZ o.2 ∧ (zI o.2 1 x0).toInt = (zI S 1 x0).toInt + 1 ∧ ∀ a, a ≠ x0 → zI o.2 1 a = zI S 1 a) := by
  obtain ⟨o, ho, h1, h2, h3⟩ := p_d_X6_put hT (rpc_of hR) r_x0 r_x1 q0
  exact ⟨o, ho, h1, rpc_to h2 q1, h3⟩
