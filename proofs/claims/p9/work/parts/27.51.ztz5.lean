def IVx (S : ZS) (x0 : Nat) (d : Int) : Prop := ∀ b8 b9 g, zP S 8 x0 = some b8 → zP S 9 x0 = some b9 → zP S 3 x0 = some g → ∀ i : Nat, (i : Int) ≤ d → 0 ≤ (zA S b8 i).toInt ∧ (zA S b8 i).toInt ≤ (zA S b9 i).toInt ∧ (zA S b9 i).toInt ≤ (cn S g : Int)
def RT (S S' : ZS) : Prop := RM S S' ∧ (TZ S → TZ S') ∧ XR S S'
theorem rt_0 (S : ZS) : RT S S := ⟨rm_0 S, fun h => h, xr_0 S⟩
theorem rt_t {S S1 S2 : ZS} (h : RT S S1) (h2 : RT S1 S2) : RT S S2 := ⟨rm_t h.1 h2.1, fun t => h2.2.1 (h.2.1 t), xr_t h.2.2 h2.2.2⟩
theorem rt_of {S S1 : ZS} (h : RP S S1) : RT S S1 := ⟨h.1, h.2.1, h.2.2.2⟩
theorem rt_f {W V : List (Nat × Nat)} {B : List Nat} {SZ S S' : ZS} (hR : RT SZ S) (hT : ZT S) (q : EqT S S') (f : FrZ W V B S S') (hv : (6, 0) ∉ V ∧ tdis W V B) (hx : XR S S') : RT SZ S' := ⟨rm_f hR.1 hT q f hv.1, fun t => tz_fr hT f hv.2 (hR.2.1 t), xr_t hR.2.2 hx⟩
theorem rt_I {j a k : Nat} {v : Int32} {SZ S S' : ZS} (hR : RT SZ S) (hT : ZT S) (hk : zK S a = k) (e : S' = zsI S j a v) (hd : tdis [(k, j)] [] [] ∧ (k, j) ≠ (6, 1)) : RT SZ S' := ⟨rm_I hR.1 e, fun t => tz_fr hT (frz_I frz_0 hk e (List.mem_singleton.2 rfl)) hd.1 (hR.2.1 t), xr_t hR.2.2 (by rw [e]; exact xr_I hk hd.2)⟩
theorem rt_P {j a k b : Nat} {SZ S S' : ZS} (hR : RT SZ S) (hT : ZT S) (hk : zK S a = k) (e : S' = zsP S j a (some b)) (hv : (k, j) ≠ (6, 0) ∧ tdis [] [(k, j)] []) : RT SZ S' := ⟨rm_P hR.1 hT hk e hv.1, fun t => tz_fr hT (frz_P frz_0 hk e (List.mem_singleton.2 rfl)) hv.2 (hR.2.1 t), xr_t hR.2.2 (by rw [e]; exact xr_P hk hv.1)⟩
theorem rt_A {a i : Nat} {v : Int32} {SZ S S' : ZS} (hR : RT SZ S) (hT : ZT S) (e : S' = zsA S a i v) (hk : zK S a = 14) : RT SZ S' := ⟨rm_A hR.1 e, fun t => tz_fr (W := []) (V := []) (B := []) hT (frz_A frz_0 e) (by decide) (hR.2.1 t), xr_t hR.2.2 (by rw [e]; exact xr_A hT hk)⟩
theorem iv_fr {W V : List (Nat × Nat)} {B : List Nat} {S S' : ZS} {x0 : Nat} {d : Int} (hT : ZT S) (hk : zK S x0 = 2) (h : IVx S x0 d) (hA : A7 S S') (f : FrZ W V B S S') (hd : (1, 3) ∉ W ∧ (2, 3) ∉ V ∧ (2, 8) ∉ V ∧ (2, 9) ∉ V) : IVx S' x0 d := by
  intro b8 b9 g h8 h9 hg i hi
  have ff := (f hT.2.2.2.2.1).2.2
  have fx := (ff x0 (lt18 hk (by decide))).2.2.2.1
  rw [hk] at fx
  rw [fx 8 hd.2.2.1] at h8
  rw [fx 9 hd.2.2.2] at h9
  rw [fx 3 hd.2.1] at hg
  obtain ⟨c8, p8, k8, n8⟩ := T_2_8 hT hk
  obtain ⟨c9, p9, k9, n9⟩ := T_2_9 hT hk
  obtain ⟨cg, pg, kg⟩ := T_2_3 hT hk
  rw [h8] at p8
  rw [h9] at p9
  rw [hg] at pg
  cases p8
  cases p9
  cases pg
  rw [(hA.1 b8 k8 n8).2.2, (hA.1 b9 k9 n9).2.2]
  have hc : zI S' 3 g = zI S 3 g := (ff g (lt18 kg (by decide))).2.2.1 3 (by rw [kg]; exact hd.1)
  have hcn : cn S' g = cn S g := by unfold cn; rw [hc]
  rw [hcn]
  exact h b8 b9 g h8 h9 hg i hi
theorem iv_le {S : ZS} {x0 : Nat} {d d' : Int} (h : IVx S x0 d) (hd : d' ≤ d) : IVx S x0 d' := fun b8 b9 g h8 h9 hg i hi => h b8 b9 g h8 h9 hg i (by omega)
theorem iv_last {S : ZS} {x0 b9 g : Nat} {d : Int} {x1 : Int32} (h : IVx S x0 d) (hT : ZT S) (hk : zK S x0 = 2) (h9 : zP S 9 x0 = some b9) (hg : zP S 3 x0 = some g) (h0 : 0 ≤ x1.toInt) (h1 : x1.toInt ≤ d) : 0 ≤ (zA S b9 x1.toNatClampNeg).toInt ∧ (zA S b9 x1.toNatClampNeg).toInt ≤ (cn S g : Int) := by
  obtain ⟨b8, h8, -⟩ := T_2_8 hT hk
  have e : x1.toNatClampNeg = x1.toInt.toNat := rfl
  have := h b8 b9 g h8 h9 hg x1.toNatClampNeg (by omega)
  omega
theorem iv_grow {S S1 S2 : ZS} {x0 g b9 n : Nat} {y : Int32} {d : Int} (hT : ZT S) (hk : zK S x0 = 2) (h : IVx S x0 d) (hA : A7 S S1) (hx : ∀ j, zP S1 j x0 = zP S j x0) (hg : zP S 3 x0 = some g) (hy : y.toInt = (cn S g : Int) + 1) (hc : cn S1 g = cn S g + 1) (h9 : zP S1 9 x0 = some b9) (e : S2 = zsA S1 b9 n y) : IVx S2 x0 d := by
  intro c8 c9 cg p8 p9 pg i hi
  have ep : zP S2 = zP S1 := by rw [e]; rfl
  have ei : zI S2 = zI S1 := by rw [e]; rfl
  have eA : zA S2 = va_up (zA S1) b9 (upd (zA S1 b9) n y) := by rw [e]; rfl
  rw [ep, hx] at p8 p9 pg
  rw [hx] at h9
  rw [h9] at p9
  cases p9
  rw [hg] at pg
  cases pg
  obtain ⟨d8, q8, k8, n8⟩ := T_2_8 hT hk
  obtain ⟨d9, q9, k9, n9⟩ := T_2_9 hT hk
  rw [p8] at q8
  rw [h9] at q9
  cases q8
  cases q9
  have hcn : cn S2 g = cn S1 g := by unfold cn; rw [ei]
  have hh := h c8 b9 g p8 h9 hg i hi
  have a8 : zA S1 c8 i = zA S c8 i := by rw [(hA.1 c8 k8 n8).2.2]
  have a9 : zA S1 b9 i = zA S b9 i := by rw [(hA.1 b9 k9 n9).2.2]
  rw [hcn, hc, eA, va_up_self]
  by_cases e8 : c8 = b9
  · rw [e8, va_up_self]
    by_cases ei2 : i = n
    · rw [ei2, upd_self]; omega
    · rw [upd_ne ei2, a9]
      rw [e8] at hh
      omega
  · rw [va_up_ne _ _ e8, a8]
    by_cases ei2 : i = n
    · rw [ei2, upd_self]
      rw [ei2] at hh
      omega
    · rw [upd_ne ei2, a9]; omega
theorem iv_init {S S1 S2 : ZS} {x0 c8 c9 : Nat} (hT : ZT S) (hk : zK S x0 = 2) (h8 : zP S 8 x0 = some c8) (e1 : S1 = zsA S c8 0 0) (h9 : zP S1 9 x0 = some c9) (e2 : S2 = zsA S1 c9 0 0) : IVx S2 x0 0 := by
  intro d8 d9 g p8 p9 pg i hi
  have hi0 : i = 0 := by omega
  subst hi0
  have pE : zP S2 = zP S := by rw [e2]; show zP S1 = _; rw [e1]; rfl
  have pE1 : zP S1 = zP S := by rw [e1]; rfl
  rw [pE, h8] at p8
  cases p8
  rw [pE1] at h9
  rw [pE, h9] at p9
  cases p9
  have A9 : zA S2 c9 0 = 0 := by
    rw [e2]
    show va_up (zA S1) c9 (upd (zA S1 c9) 0 0) c9 0 = 0
    rw [va_up_self, upd_self]
  have A8 : zA S2 c8 0 = 0 := by
    by_cases e : c8 = c9
    · rw [e]; exact A9
    · rw [e2]
      show va_up (zA S1) c9 (upd (zA S1 c9) 0 0) c8 0 = 0
      rw [va_up_ne _ _ e, e1]
      show va_up (zA S) c8 (upd (zA S c8) 0 0) c8 0 = 0
      rw [va_up_self, upd_self]
  rw [A8, A9]
  have z : (0 : Int32).toInt = 0 := rfl
  omega
theorem copyFrom_k {S S' : ZS} {x0 x1 : Nat} {y : Int32} (hf : f_X0_copyFrom x0 x1 S = some (y, S')) : zK S x1 = 0 := by
  have hf : f_X0_copyFrom_0 x0 x1 S = some (y, S') := hf
  unfold f_X0_copyFrom_0 at hf
  obtain ⟨k1, hf⟩ := m_chkE hf
  exact k1
theorem iv_open {S S' : ZS} {x0 : Nat} {x1 y : Int32} {d : Int} (hT : ZT S) (hk : zK S x0 = 2) (h : IVx S x0 d) (hZ : TZ S) (hd : x1.toInt = d + 1) (h0 : 0 ≤ d) (hd6 : d ≤ 5) (hne : ∀ b8 b9, zP S 8 x0 = some b8 → zP S 9 x0 = some b9 → zA S b9 d.toNat ≠ zA S b8 d.toNat) (hf : f_X2_openLine x0 x1 S = some (y, S')) : IVx S' x0 x1.toInt := by
  have F := fz_X2_openLine hf
  have hf : f_X2_openLine_0 x0 x1 S = some (y, S') := hf
  unfold f_X2_openLine_0 at hf
  obtain ⟨-, hf⟩ := m_chkE hf
  obtain ⟨c8, p8, hf⟩ := m_calE hf
  obtain ⟨-, hf⟩ := m_chkE hf
  obtain ⟨g, pg, hf⟩ := m_calE hf
  obtain ⟨-, hf⟩ := m_chkE hf
  obtain ⟨c9, p9, hf⟩ := m_calE hf
  obtain ⟨v4, e4, hf⟩ := m_bndE hf
  obtain ⟨-, hf⟩ := m_chkE hf
  obtain ⟨-, hf⟩ := m_chkE hf
  obtain ⟨v5, e5, hf⟩ := m_bndE hf
  obtain ⟨kg, hf⟩ := m_chkE hf
  obtain ⟨⟨c, Sx⟩, h6, hf⟩ := m_calE hf
  obtain ⟨s6, k6, a6⟩ := ok_of (t_f_X1_at hT kg) h6
  dsimp only at s6 k6 a6 hf
  rw [s6] at hf k6
  obtain ⟨-, hf⟩ := m_chkE hf
  obtain ⟨-, hf⟩ := m_chkE hf
  obtain ⟨-, hf⟩ := m_chkE hf
  obtain ⟨S7, e7, hf⟩ := m_bndE hf
  obtain ⟨-, hf⟩ := m_chkE hf
  obtain ⟨c9', p9', hf⟩ := m_calE hf
  obtain ⟨-, hf⟩ := m_chkE hf
  obtain ⟨c8', p8', hf⟩ := m_calE hf
  obtain ⟨-, hf⟩ := m_chkE hf
  obtain ⟨-, hf⟩ := m_chkE hf
  obtain ⟨v10, e10, hf⟩ := m_bndE hf
  obtain ⟨-, hf⟩ := m_chkE hf
  obtain ⟨-, hf⟩ := m_chkE hf
  obtain ⟨S11, e11, hf⟩ := m_bndE hf
  have pE7 : zP S7 = zP S := by rw [e7]; rfl
  rw [pE7, p9] at p9'
  rw [pE7, p8] at p8'
  rw [← Option.some.inj p9'] at e11
  rw [← Option.some.inj p8'] at e10
  obtain ⟨-, hf⟩ := m_chkE hf
  obtain ⟨b12, -, hf⟩ := m_calE hf
  obtain ⟨-, hf⟩ := m_chkE hf
  obtain ⟨-, hf⟩ := m_chkE hf
  obtain ⟨b13, p13, hf⟩ := m_calE hf
  obtain ⟨-, hf⟩ := m_chkE hf
  obtain ⟨b14, -, hf⟩ := m_calE hf
  obtain ⟨v15, -, hf⟩ := m_bndE hf
  obtain ⟨-, hf⟩ := m_chkE hf
  obtain ⟨-, hf⟩ := m_chkE hf
  obtain ⟨b16, p16, hf⟩ := m_calE hf
  obtain ⟨k13, hf⟩ := m_chkE hf
  obtain ⟨⟨y17, S17⟩, h17, hf⟩ := m_calE hf
  obtain ⟨-, hf⟩ := m_chkE hf
  obtain ⟨v18, -, hf⟩ := m_bndE hf
  obtain ⟨-, hf⟩ := m_chkE hf
  obtain ⟨S19, e19, hf⟩ := m_bndE hf
  cases hf
  obtain ⟨d8, q8, k8, n8⟩ := T_2_8 hT hk
  obtain ⟨d9, q9, k9, n9⟩ := T_2_9 hT hk
  rw [p8] at q8
  rw [p9] at q9
  cases q8
  cases q9
  have z1 : (1 : Int32).toInt = 1 := rfl
  have t4 : v4.toInt = d := by
    have := ti_sub (c := v4) (a := x1) (b := 1) e4 rfl z1 (by omega) (by omega)
    omega
  have n4 : v4.toNatClampNeg = d.toNat := by
    have e : v4.toNatClampNeg = v4.toInt.toNat := rfl
    rw [e, t4]
  have n1 : x1.toNatClampNeg = d.toNat + 1 := by
    have e : x1.toNatClampNeg = x1.toInt.toNat := rfl
    omega
  rw [n4] at e5
  rw [n1] at e7 e10 e11
  have hl := h c8 c9 g p8 p9 pg d.toNat (by omega)
  have hnn := hne c8 c9 p8 p9
  obtain ⟨r, b, g', r', b', hgg, hrr, hbb, hX, hY, hY', -⟩ := tz_g (M_2_3 hT hk pg) hZ
  have v5n : 1 ≤ v5.toInt := by
    rw [e5]
    have : (zA S c9 d.toNat).toInt ≠ (zA S c8 d.toNat).toInt := fun e => hnn (Int32.toInt_inj.1 e)
    omega
  have v5m : v5.toInt ≤ (cn S g : Int) := by rw [e5]; exact hl.2.2
  have ec : c = nk S r b v5.toInt.toNat := by rw [a6, nd_nk hT kg hX.2.1.1 hX.2.2.1.1 (by omega) v5m]
  have hP := (hY.2.1 v5.toInt.toNat (by omega) (by omega)).1
  have hPc : nF S 0 r b v5.toInt.toNat = (zI S 0 c).toInt := by unfold nF; rw [← ec]
  rw [hPc] at hP
  have T7 : ZT S7 := e7.symm ▸ zt_A hT k8
  have k9' : zK S7 c9 = 14 := by rw [e7]; exact k9
  have T11 : ZT S11 := e11.symm ▸ zt_A T7 k9'
  have kE : zK S11 = zK S := by rw [e11]; show zK S7 = _; rw [e7]; rfl
  have nE : zN S11 = zN S := by rw [e11]; show zN S7 = _; rw [e7]; rfl
  have k16 : zK S11 b16 = 0 := by
    exact copyFrom_k h17
  have A17 : A7 S11 S17 := (ok_of (t_f_X0_copyFrom (SZ := S11) T11 (a7_0 S11) k13 k16) h17).2.1
  have A7' : zA S7 = va_up (zA S) c8 (upd (zA S c8) (d.toNat + 1) (zI S 0 c)) := by rw [e7]; rfl
  have A11 : zA S11 = va_up (zA S7) c9 (upd (zA S7 c9) (d.toNat + 1) v10) := by rw [e11]; rfl
  intro f8 f9 fg g8 g9 gg i hi
  have ff := (F hT.2.2.2.2.1).2.2
  have fx := (ff x0 (lt18 hk (by decide))).2.2.2.1
  rw [hk] at fx
  rw [fx 8 (by decide), p8] at g8
  rw [fx 9 (by decide), p9] at g9
  rw [fx 3 (by decide), pg] at gg
  cases g8
  cases g9
  cases gg
  have hcn : cn S' g = cn S g := by
    have : zI S' 3 g = zI S 3 g := (ff g (lt18 kg (by decide))).2.2.1 3 (by rw [kg]; decide)
    unfold cn; rw [this]
  have z8 : zA S' c8 = zA S11 c8 := by
    rw [e19]; show zA S17 c8 = _
    exact (A17.1 c8 (by rw [kE]; exact k8) (by rw [nE]; exact n8)).2.2
  have z9 : zA S' c9 = zA S11 c9 := by
    rw [e19]; show zA S17 c9 = _
    exact (A17.1 c9 (by rw [kE]; exact k9) (by rw [nE]; exact n9)).2.2
  have v10e : v10 = zI S 0 c := by
    rw [e10, A7', va_up_self, upd_self]
  rw [z8, z9, hcn, A11, va_up_self]
  by_cases ei : i = d.toNat + 1
  · rw [ei, upd_self]
    have e8 : (va_up (zA S7) c9 (upd (zA S7 c9) (d.toNat + 1) v10) c8) (d.toNat + 1) = v10 := by
      by_cases e : c8 = c9
      · rw [e, va_up_self, upd_self]
      · rw [va_up_ne _ _ e, A7', va_up_self, upd_self, v10e]
    rw [e8, v10e]
    omega
  · have hi2 := h c8 c9 g p8 p9 pg i (by omega)
    have e7a : ∀ a, zA S7 a i = zA S a i := fun a => by
      rw [A7']
      by_cases e : a = c8
      · rw [e, va_up_self, upd_ne ei]
      · rw [va_up_ne _ _ e]
    have e8 : (va_up (zA S7) c9 (upd (zA S7 c9) (d.toNat + 1) v10) c8) i = zA S c8 i := by
      by_cases e : c8 = c9
      · rw [e, va_up_self, upd_ne ei, e7a]
      · rw [va_up_ne _ _ e, e7a]
    rw [e8, upd_ne ei, e7a]
    exact hi2
theorem nd4_fr {W V : List (Nat × Nat)} {B : List Nat} {S S' : ZS} {g : Nat} {i : Int32} {v : Int32} (hT : ZT S) (hk : zK S g = 1) (f : FrZ W V B S S') (hd : (1, 3) ∉ W ∧ (4, 4) ∉ W ∧ (1, 1) ∉ V ∧ (1, 2) ∉ V ∧ 16 ∉ B) (h : zI S 4 (nd S g i) = v) : zI S' 4 (nd S' g i) = v := by
  obtain ⟨c, h1, k1, a1⟩ := roz (t_f_X1_at (x1 := i) hT hk)
  dsimp only at k1 a1
  have ff := (f hT.2.2.2.2.1).2.2
  have fg := ff g (lt18 hk (by decide))
  rw [hk] at fg
  obtain ⟨b, pb, kb, -⟩ := T_1_2 hT hk
  have e : nd S' g i = nd S g i := nd_x (fg.2.2.1 3 hd.1) (fg.2.2.2.1 1 hd.2.2.1) (fg.2.2.2.1 2 hd.2.2.2.1) pb ((ff b (lt18 kb (by decide))).2.2.2.2 (by rw [kb]; exact hd.2.2.2.2)) i
  rw [e, ← a1]
  rw [← a1] at h
  rw [(ff c (lt18 k1 (by decide))).2.2.1 4 (by rw [k1]; exact hd.2.1)]
  exact h
def OG (x : Nat) (S S' : ZS) : Prop := zK S x = 2 → zK S' x = 2 ∧ zP S' 3 x = zP S 3 x ∧ ∀ a g, zP S 3 x = some g → zK S a = 1 → a ≠ g → zK S' a = 1 ∧ zI S' 3 a = zI S 3 a
theorem og_0 (x : Nat) (S : ZS) : OG x S S := fun h => ⟨h, rfl, fun _ _ _ h2 _ => ⟨h2, rfl⟩⟩
theorem og_t {x : Nat} {S S1 S2 : ZS} (h : OG x S S1) (h2 : OG x S1 S2) : OG x S S2 := fun hk => by
  obtain ⟨a1, a2, a3⟩ := h hk
  obtain ⟨b1, b2, b3⟩ := h2 a1
  refine ⟨b1, b2.trans a2, fun a g hg ha hne => ?_⟩
  obtain ⟨c1, c2⟩ := a3 a g hg ha hne
  obtain ⟨d1, d2⟩ := b3 a g (by rw [a2]; exact hg) c1 hne
  exact ⟨d1, d2.trans c2⟩
theorem og_fr {W V : List (Nat × Nat)} {B : List Nat} {S S' : ZS} {x : Nat} (hT : ZT S) (f : FrZ W V B S S') (hd : (1, 3) ∉ W ∧ (2, 3) ∉ V) : OG x S S' := fun hk => by
  have ff := (f hT.2.2.2.2.1).2.2
  have fx := ff x (lt18 hk (by decide))
  rw [hk] at fx
  refine ⟨fx.1, fx.2.2.2.1 3 hd.2, fun a g _ ha _ => ?_⟩
  have fa := ff a (lt18 ha (by decide))
  rw [ha] at fa
  exact ⟨fa.1, fa.2.2.1 3 hd.1⟩
theorem xr_open {S S' : ZS} {x0 : Nat} {x1 y : Int32} (hT : ZT S) (hf : f_X2_openLine x0 x1 S = some (y, S')) : XR S S' := by
  have hf : f_X2_openLine_0 x0 x1 S = some (y, S') := hf
  unfold f_X2_openLine_0 at hf
  obtain ⟨-, hf⟩ := m_chkE hf
  obtain ⟨c8, p8, hf⟩ := m_calE hf
  obtain ⟨-, hf⟩ := m_chkE hf
  obtain ⟨g, pg, hf⟩ := m_calE hf
  obtain ⟨-, hf⟩ := m_chkE hf
  obtain ⟨c9, p9, hf⟩ := m_calE hf
  obtain ⟨v4, e4, hf⟩ := m_bndE hf
  obtain ⟨-, hf⟩ := m_chkE hf
  obtain ⟨-, hf⟩ := m_chkE hf
  obtain ⟨v5, e5, hf⟩ := m_bndE hf
  obtain ⟨kg, hf⟩ := m_chkE hf
  obtain ⟨⟨c, Sx⟩, h6, hf⟩ := m_calE hf
  obtain ⟨s6, -, -⟩ := ok_of (t_f_X1_at hT kg) h6
  dsimp only at s6 hf
  rw [s6] at hf
  obtain ⟨-, hf⟩ := m_chkE hf
  obtain ⟨k8, hf⟩ := m_chkE hf
  obtain ⟨-, hf⟩ := m_chkE hf
  obtain ⟨S7, e7, hf⟩ := m_bndE hf
  have T7 : ZT S7 := e7.symm ▸ zt_A hT k8
  have X7 : XR S S7 := by rw [e7]; exact xr_A hT k8
  obtain ⟨-, hf⟩ := m_chkE hf
  obtain ⟨c9', p9', hf⟩ := m_calE hf
  obtain ⟨-, hf⟩ := m_chkE hf
  obtain ⟨c8', p8', hf⟩ := m_calE hf
  obtain ⟨-, hf⟩ := m_chkE hf
  obtain ⟨-, hf⟩ := m_chkE hf
  obtain ⟨v10, e10, hf⟩ := m_bndE hf
  obtain ⟨k9, hf⟩ := m_chkE hf
  obtain ⟨-, hf⟩ := m_chkE hf
  obtain ⟨S11, e11, hf⟩ := m_bndE hf
  have T11 : ZT S11 := e11.symm ▸ zt_A T7 k9
  have X11 : XR S7 S11 := by rw [e11]; exact xr_A T7 k9
  obtain ⟨-, hf⟩ := m_chkE hf
  obtain ⟨b12, -, hf⟩ := m_calE hf
  obtain ⟨-, hf⟩ := m_chkE hf
  obtain ⟨-, hf⟩ := m_chkE hf
  obtain ⟨b13, p13, hf⟩ := m_calE hf
  obtain ⟨-, hf⟩ := m_chkE hf
  obtain ⟨b14, -, hf⟩ := m_calE hf
  obtain ⟨v15, -, hf⟩ := m_bndE hf
  obtain ⟨-, hf⟩ := m_chkE hf
  obtain ⟨-, hf⟩ := m_chkE hf
  obtain ⟨b16, p16, hf⟩ := m_calE hf
  obtain ⟨k13, hf⟩ := m_chkE hf
  obtain ⟨⟨y17, S17⟩, h17, hf⟩ := m_calE hf
  have X17 : XR S11 S17 := (ok_of (t_f_X0_copyFrom (SZ := S11) T11 (a7_0 S11) k13 (copyFrom_k h17)) h17).2.1.2
  obtain ⟨k17, hf⟩ := m_chkE hf
  obtain ⟨v18, -, hf⟩ := m_bndE hf
  obtain ⟨-, hf⟩ := m_chkE hf
  obtain ⟨S19, e19, hf⟩ := m_bndE hf
  cases hf
  refine xr_t (xr_t (xr_t X7 X11) X17) ?_
  rw [e19]
  exact xr_I (show zK S17 x0 = 2 from k17) (by decide)
def RG (x : Nat) (S S' : ZS) : Prop := RT S S' ∧ OG x S S'
theorem rg_0 (x : Nat) (S : ZS) : RG x S S := ⟨rt_0 S, og_0 x S⟩
theorem rg_t {x : Nat} {S S1 S2 : ZS} (h : RG x S S1) (h2 : RG x S1 S2) : RG x S S2 := ⟨rt_t h.1 h2.1, og_t h.2 h2.2⟩
theorem rg_f {x : Nat} {W V : List (Nat × Nat)} {B : List Nat} {SZ S S' : ZS} (hR : RG x SZ S) (hT : ZT S) (q : EqT S S') (f : FrZ W V B S S') (hv : ((6, 0) ∉ V ∧ tdis W V B) ∧ (2, 3) ∉ V) (hx : XR S S') : RG x SZ S' := ⟨rt_f hR.1 hT q f hv.1 hx, og_t hR.2 (og_fr hT f ⟨hv.1.2.2.2.2.1, hv.2⟩)⟩
theorem rg_I {x : Nat} {j a k : Nat} {v : Int32} {SZ S S' : ZS} (hR : RG x SZ S) (hT : ZT S) (hk : zK S a = k) (e : S' = zsI S j a v) (hd : tdis [(k, j)] [] [] ∧ (k, j) ≠ (6, 1)) : RG x SZ S' := ⟨rt_I hR.1 hT hk e hd, og_t hR.2 (og_fr (V := []) (B := []) hT (frz_I frz_0 hk e (List.mem_singleton.2 rfl)) ⟨hd.1.2.2.2.1, fun h => (by cases h)⟩)⟩
theorem rg_A {x : Nat} {a i : Nat} {v : Int32} {SZ S S' : ZS} (hR : RG x SZ S) (hT : ZT S) (e : S' = zsA S a i v) (hk : zK S a = 14) : RG x SZ S' := ⟨rt_A hR.1 hT e hk, og_t hR.2 (og_fr (W := []) (V := []) (B := []) hT (frz_A frz_0 e) ⟨fun h => (by cases h), fun h => (by cases h)⟩)⟩
theorem rg_d {x : Nat} {W V : List (Nat × Nat)} {B : List Nat} {SZ S S' : ZS} (hR : RG x SZ S) (hT : ZT S) (h : RP S S') (f : FrZ W V B S S') (hd : (1, 3) ∉ W ∧ (2, 3) ∉ V) : RG x SZ S' := ⟨rt_t hR.1 (rt_of h), og_t hR.2 (og_fr hT f hd)⟩
theorem rg_grow {x g : Nat} {SZ S S' : ZS} {y : Int32} (hR : RG x SZ S) (hk : zK S x = 2) (hT : ZT S) (h : RP S S') (hg : zP S 3 x = some g) (hG : GP S g (y, S')) (f : ∀ a, zK S a < 18 → zK S' a = zK S a) : RG x SZ S' := ⟨rt_t hR.1 (rt_of h), og_t hR.2 (fun hk => by
  rcases hG with ⟨-, e, -⟩ | ⟨-, -, -, -, h5, h6⟩
  · have e : S' = S := e
    rw [e]; exact og_0 x S hk
  · refine ⟨(f x (lt18 hk (by decide))).trans hk, h6 x 3 (lt18 hk (by decide)), fun a g' hg' ha hne => ?_⟩
    rw [hg] at hg'
    cases hg'
    exact ⟨(f a (lt18 ha (by decide))).trans ha, h5 a ha hne⟩)⟩
theorem holds_v {S S' : ZS} {x0 x1 : Nat} {x2 y : Int32} (hT : ZT S) (hk : zK S x0 = 6) (h1 : x1 < 29) (hx : x2.toInt ≤ 90100) (hf : f_X6_holds x0 x1 x2 S = some (y, S')) (hy : y ≠ 0) : x2.toInt ≤ (zI S 1 x0).toInt := by
  have hf : f_X6_holds_0 x0 x1 x2 S = some (y, S') := hf
  unfold f_X6_holds_0 at hf
  rcases m_ifE hf with ⟨-, hf⟩ | ⟨c, hf⟩
  · unfold f_X6_holds_17 at hf
    obtain ⟨-, hf⟩ := m_chkE hf
    cases hf
    exact absurd rfl hy
  · replace c := ti_ltN (a := x2) (b := 0) c rfl rfl
    have z : (0 : Int32).toInt = 0 := rfl
    obtain ⟨-, hf⟩ := m_chkE hf
    obtain ⟨⟨l, Sx⟩, hl, hf⟩ := m_calE hf
    obtain ⟨s1, r1, -⟩ := ok_of (t_f_J0_length_8abf5 hT h1) hl
    dsimp only at s1 r1 hf
    rw [s1] at hf
    obtain ⟨v2, e2, hf⟩ := m_bndE hf
    have t2 : v2.toInt = x2.toInt + l.toInt := ti_add e2 rfl rfl (by omega) (by omega)
    obtain ⟨-, hf⟩ := m_chkE hf
    rcases m_ifE hf with ⟨c2, -⟩ | ⟨-, hf⟩
    · replace c2 := ti_leP (a := v2) (b := zI S 1 x0) c2 rfl rfl
      omega
    · unfold f_X6_holds_17 at hf
      obtain ⟨-, hf⟩ := m_chkE hf
      cases hf
      exact absurd rfl hy
theorem rh_2 {S S' : ZS} {x0 : Nat} {y : Int32} (hT : ZT S) (hk : zK S x0 = 2) (hy : y.toInt ≠ -1) : ∀ (n : Nat) (x1 : Int32), f_X2_resultHere_2 n x0 x1 S = some (y, S') → (zI S 4 x0).toInt ≤ 90000
  | 0, _, hf => by cases hf
  | n + 1, x1, hf => by
    have hf : f_X2_resultHere_2s (f_X2_resultHere_2 n) x0 x1 S = some (y, S') := hf
    unfold f_X2_resultHere_2s at hf
    rcases m_ifE hf with ⟨-, hf⟩ | ⟨-, hf⟩
    · cases hf
      exact absurd rfl hy
    · obtain ⟨-, hf⟩ := m_chkE hf
      obtain ⟨b1, p1, hf⟩ := m_calE hf
      obtain ⟨⟨s, Sx⟩, hs, hf⟩ := m_calE hf
      obtain ⟨s1, r1⟩ := ok_of (t_f_X11_resultSign hT) hs
      dsimp only at s1 r1 hf
      rw [s1] at hf
      obtain ⟨-, hf⟩ := m_chkE hf
      obtain ⟨k1, hf⟩ := m_chkE hf
      obtain ⟨⟨u, Sy⟩, hu, hf⟩ := m_calE hf
      have j4 := J_2_4 hT hk
      obtain ⟨s2, r2⟩ := ok_of (t_f_X6_holds hT k1 r1 (by omega)) hu
      dsimp only at s2 r2 hf
      rw [s2] at hf
      rcases m_ifE hf with ⟨-, hf⟩ | ⟨c, hf⟩
      · obtain ⟨v4, e4, hf⟩ := m_bndE hf
        exact rh_2 hT hk hy n v4 hf
      · have h1 := holds_v hT k1 r1 (by omega) hu c
        have h2 := J_6_1 hT k1
        omega
theorem rh_v {S S' : ZS} {x0 : Nat} {y : Int32} (hT : ZT S) (hk : zK S x0 = 2) (hf : f_X2_resultHere x0 S = some (y, S')) (hy : y.toInt ≠ -1) : (zI S 4 x0).toInt ≤ 90000 := rh_2 hT hk hy mFuel 0 hf
theorem og_wipe {S S' : ZS} {g a : Nat} {y : Int32} (hT : ZT S) (hf : f_X1_wipe g S = some (y, S')) (ha : zK S a = 1) (hne : a ≠ g) : zI S' 3 a = zI S 3 a := by
  have hf : f_X1_wipe_0 g S = some (y, S') := hf
  unfold f_X1_wipe_0 at hf
  obtain ⟨-, hf⟩ := m_chkE hf
  obtain ⟨bd, -, hf⟩ := m_calE hf
  obtain ⟨kbd, hf⟩ := m_chkE hf
  obtain ⟨⟨y2, S2⟩, ho2, hf⟩ := m_calE hf
  obtain ⟨-, hf⟩ := m_chkE hf
  obtain ⟨b3, hb3, hf⟩ := m_calE hf
  obtain ⟨-, hf⟩ := m_chkE hf
  obtain ⟨⟨y4, S4⟩, ho4, hf⟩ := m_calE hf
  obtain ⟨-, hf⟩ := m_chkE hf
  obtain ⟨S5, e5, hf⟩ := m_bndE hf
  obtain ⟨-, hf⟩ := m_chkE hf
  obtain ⟨S6, e6, hf⟩ := m_bndE hf
  obtain ⟨-, hf⟩ := m_chkE hf
  obtain ⟨S7, e7, hf⟩ := m_bndE hf
  cases hf
  replace ho4 : f_X4_become b3 (-1) (-1) S2 = some (y4, S4) := ho4
  have f2 := fz_X0_setUp ho2 hT.2.2.2.2.1
  have f4 := (fz_X4_become ho4 f2.1).2.2
  have k2 : zK S2 a = 1 := (f2.2.2 a (lt18 ha (by decide))).1.trans ha
  rw [e7, zI_j (by decide), e6, zI_j (by decide), e5, zI_ne hne]
  have h4 : zI S4 3 a = zI S2 3 a := (f4 a (lt18 k2 (by decide))).2.2.1 3 (by rw [k2]; decide)
  have h2 : zI S2 3 a = zI S 3 a := (f2.2.2 a (lt18 ha (by decide))).2.2.1 3 (by rw [ha]; decide)
  exact h4.trans h2
theorem og_begin {S S' : ZS} {x0 x1 : Nat} {y : Int32} (hT : ZT S) (r_x0 : zK S x0 = 2) (r_x1 : zK S x1 = 6) (c_x1 : rc x1 ≤ 2) (hf : f_X2_begin x0 x1 S = some (y, S')) : OG x0 S S' := fun hk => by
  have F := (fz_X2_begin hf hT.2.2.2.2.1).2.2
  have fx := F x0 (lt18 hk (by decide))
  rw [hk] at fx
  refine ⟨fx.1, fx.2.2.2.1 3 (by decide), fun a g hg ha hne => ⟨(F a (lt18 ha (by decide))).1.trans ha, ?_⟩⟩
  have hf : f_X2_begin_0 x0 x1 S = some (y, S') := hf
  unfold f_X2_begin_0 at hf
  obtain ⟨-, hf⟩ := m_chkE hf
  obtain ⟨S1, e1, hf⟩ := m_bndE hf
  have T1 : ZT S1 := e1.symm ▸ zt_P hT r_x0 (by decide) (Or.inr ⟨r_x1, rfl⟩) ⟨Nat.zero_le _, c_x1⟩
  obtain ⟨-, hf⟩ := m_chkE hf
  obtain ⟨g2, hg2, hf⟩ := m_calE hf
  obtain ⟨-, hf⟩ := m_chkE hf
  obtain ⟨⟨y3, S3⟩, h3, hf⟩ := m_calE hf
  obtain ⟨k3, hf⟩ := m_chkE hf
  replace k3 : zK S3 x0 = 2 := k3
  obtain ⟨S4, e4, hf⟩ := m_bndE hf
  replace e4 : S4 = zsI S3 4 x0 0 := e4
  obtain ⟨k4, hf⟩ := m_chkE hf
  obtain ⟨S5, e5, hf⟩ := m_bndE hf
  cases hf
  have hg1 : zP S1 3 x0 = some g := by rw [e1, zP_j (by decide)]; exact hg
  rw [hg1] at hg2
  have eg : g2 = g := (Option.some.inj hg2).symm
  rw [eg] at h3
  have k1 : zK S1 a = 1 := by rw [e1]; exact ha
  rw [e5, zI_j (by decide), e4, zI_j (by decide), og_wipe T1 h3 k1 hne, e1]
  rfl
