section GRC
variable {S S' : ZS} {g g' p : Nat} {T : TRa} {o : Int32 × ZS} {x1 x2 x3 : Int32}
theorem gq_24 (hC : CG S) (hg : g = 35 ∨ g = 99) (h : TRc S g T) : ∀ (n : Nat) (l : List Nat) (x3 x4 : Int32), chn (nF S 3 (g + 3) (g + 5)) l x3.toInt → (∀ k ∈ l, 1 ≤ k ∧ k ≤ tn T) → 0 ≤ x4.toInt → x4.toInt + (l.length : Int) ≤ 300 → d_X1_grow_24 n g x1 x2 x3 x4 S = some o → ∃ y : Int32, (l = [] → y.toInt = -1) ∧ (∀ hl : l ≠ [], y.toInt = ((l.getLast hl : Nat) : Int)) ∧ d_X1_grow_64 g x1 x2 y S = some o := by
  intro n
  induction n with
  | zero => intro l x3 x4 _ _ _ _ hf; cases hf
  | succ n ih =>
    intro l x3 x4 hc hm h4 hl hf
    have hf : d_X1_grow_24s (d_X1_grow_24 n) g x1 x2 x3 x4 S = some o := hf
    cases l with
    | nil =>
      have hc' : x3.toInt = -1 := hc
      unfold d_X1_grow_24s at hf
      rcases m_ifE hf with ⟨c1, hf⟩ | ⟨c1, hf⟩
      · skip
        replace c1 := ti_leP (a := (300 : Int32)) (b := x4) c1 (show (300 : Int32).toInt = 300 from rfl) rfl
        exact ⟨x3, fun _ => hc', fun e => absurd rfl e, hf⟩
      · skip
        replace c1 := ti_leN (a := (300 : Int32)) (b := x4) c1 (show (300 : Int32).toInt = 300 from rfl) rfl
        rcases m_ifE hf with ⟨c2, hf⟩ | ⟨c2, hf⟩
        · skip
          replace c2 := ti_eqP (a := x3) (b := (-1 : Int32)) c2 rfl (show (-1 : Int32).toInt = -1 from rfl)
          exact ⟨x3, fun _ => hc', fun e => absurd rfl e, hf⟩
        · skip
          replace c2 := ti_eqN (a := x3) (b := (-1 : Int32)) c2 rfl (show (-1 : Int32).toInt = -1 from rfl)
          exact absurd hc' (by omega)
    | cons k l =>
      obtain ⟨hc1, hc2⟩ := hc
      have hk := hm k List.mem_cons_self
      have ll : ((k :: l).length : Int) = (l.length : Int) + 1 := rfl
      unfold d_X1_grow_24s at hf
      rcases m_ifE hf with ⟨c1, hf⟩ | ⟨c1, hf⟩
      · skip
        replace c1 := ti_leP (a := (300 : Int32)) (b := x4) c1 (show (300 : Int32).toInt = 300 from rfl) rfl
        omega
      · skip
        replace c1 := ti_leN (a := (300 : Int32)) (b := x4) c1 (show (300 : Int32).toInt = 300 from rfl) rfl
        rcases m_ifE hf with ⟨c2, hf⟩ | ⟨c2, hf⟩
        · skip
          replace c2 := ti_eqP (a := x3) (b := (-1 : Int32)) c2 rfl (show (-1 : Int32).toInt = -1 from rfl)
          omega
        · skip
          replace c2 := ti_eqN (a := x3) (b := (-1 : Int32)) c2 rfl (show (-1 : Int32).toInt = -1 from rfl)
          obtain ⟨-, hf⟩ := m_chkE hf
          obtain ⟨r1, h_r1, hf⟩ := m_calR hf (fun _ h => ro_X1_at h)
          dsimp only at hf
          obtain ⟨-, q1⟩ := p_at hC hg h (by omega) (by omega) h_r1
          have ek : x3.toInt.toNat = k := by omega
          rw [ek] at q1
          have m1 : (zI S 3 r1).toInt = nF S 3 (g + 3) (g + 5) k := by rw [q1]; rfl
          obtain ⟨-, hf⟩ := m_chkE hf
          obtain ⟨-, hf⟩ := m_chkE hf
          rcases m_ifE hf with ⟨c3, hf⟩ | ⟨c3, hf⟩
          · skip
            replace c3 := ti_eqP (a := (zI S 3 r1)) (b := (-1 : Int32)) c3 rfl (show (-1 : Int32).toInt = -1 from rfl)
            have l0 : l = [] := chn_nil (v := nF S 3 (g + 3) (g + 5) k) hc2 (by omega)
            subst l0
            exact ⟨x3, (fun e => by cases e), fun _ => hc1, hf⟩
          · skip
            replace c3 := ti_eqN (a := (zI S 3 r1)) (b := (-1 : Int32)) c3 rfl (show (-1 : Int32).toInt = -1 from rfl)
            obtain ⟨-, hf⟩ := m_chkE hf
            obtain ⟨r2, h_r2, hf⟩ := m_calR hf (fun _ h => ro_X1_at h)
            dsimp only at hf
            obtain ⟨-, q2⟩ := p_at hC hg h (by omega) (by omega) h_r2
            rw [ek] at q2
            obtain ⟨-, hf⟩ := m_chkE hf
            obtain ⟨-, hf⟩ := m_chkE hf
            obtain ⟨v3, e_v3, hf⟩ := m_bndE hf
            have t_v3 : v3.toInt = x4.toInt + 1 := ti_add e_v3 rfl (show (1 : Int32).toInt = 1 from rfl) (by omega) (by omega)
            have hc3 : chn (nF S 3 (g + 3) (g + 5)) l (zI S 3 r2).toInt := by rw [q2]; exact hc2
            have ln : l ≠ [] := fun e => by
              rw [e] at hc3
              have : (zI S 3 r2).toInt = -1 := hc3
              rw [q2, ← q1] at this
              exact c3 this
            obtain ⟨y, y1, y2, y3⟩ := ih l (zI S 3 r2) v3 hc3 (fun j hj => hm j (List.mem_cons_of_mem _ hj)) (by omega) (by omega) hf
            exact ⟨y, (fun e => by cases e), fun _ => by rw [List.getLast_cons ln]; exact y2 ln, y3⟩
/-- room for a node more: c -/
noncomputable def GXn (S SX : ZS) (g c n : Nat) : Prop := (zB SX (g + 5) (n + 1) = some c ∧ (∀ i, i ≠ n + 1 → zB SX (g + 5) i = zB S (g + 5) i)) ∧ (zI SX 3 g).toInt = ((n + 1 : Nat) : Int) ∧ (∀ j, j ≠ 3 → zI SX j g = zI S j g) ∧ FR (fun a => a = g ∨ a = g + 5) S SX ∧ (zB S (g + 5) (n + 1) = some c ∨ 18 ≤ zK S c ∧ 18 ≤ zK S (c + 1)) ∧ (109 ≤ c ∧ zK SX c = 4 ∧ zP SX 6 c = some (c + 1) ∧ zK SX (c + 1) = 6) ∧ ZT SX
theorem zNd_p (S : ZS) : zP (zNd S) 6 (zt S) = some (zt S + 1) := by
  unfold zNd
  show va_up (zP (zRw (zN6 S))) 6 (va_up (zP (zRw (zN6 S)) 6) (zt S) (some (zt S + 1))) 6 (zt S) = _
  rw [va_up_self, va_up_self]
theorem gq_64 (hC : CG S) (hg : g = 35 ∨ g = 99) (h : TRc S g T) (hn : tn T < 300) (hf : d_X1_grow_64 g x1 x2 x3 S = some o) : ∃ SX c, GXn S SX g c (tn T) ∧ d_X1_grow_102 g x1 x2 x3 SX = some o := by
  obtain ⟨⟨kg, p0, p1, p2, p4, p7⟩, ⟨k1, k2', k3, k4, k5, k6, k7⟩, -⟩ := fx_g hC.2.2.1 hg
  have hT := hC.1
  have hc := cn_le hT kg
  rw [h.1] at hc
  have G := (gm_of hC hg).1
  unfold d_X1_grow_64 at hf
  obtain ⟨-, hf⟩ := m_chkE hf
  obtain ⟨v1, e_v1, hf⟩ := m_bndE hf
  have t_v1 : v1.toInt = (zI S 3 g).toInt + 1 := ti_add e_v1 rfl (show (1 : Int32).toInt = 1 from rfl) (by omega) (by omega)
  obtain ⟨-, hf⟩ := m_chkE hf
  obtain ⟨S2, e_S2, hf⟩ := m_bndE hf
  have T2 : ZT S2 := e_S2.symm ▸ zt_I hT kg (by decide) (show (0 : Int) ≤ v1.toInt ∧ v1.toInt ≤ (300 : Int) by omega)
  have kk : zK S2 = zK S := by rw [e_S2]; rfl
  have pp : zP S2 = zP S := by rw [e_S2]; rfl
  have bb : zB S2 = zB S := by rw [e_S2]; rfl
  have i2 : zI S2 3 g = v1 := by rw [e_S2]; exact zI_self _ _ _ _
  have P2 : zP S2 2 g = some (g + 5) := by rw [pp]; exact p2
  have ix : (zI S2 3 g).toNatClampNeg = tn T + 1 := by rw [i2]; exact cl_n (by omega)
  have F2 : FR (fun a => a = g) S S2 := fr_I e_S2
  rw [ix] at hf
  obtain ⟨-, hf⟩ := m_chkE hf
  replace hf := m_calY hf P2
  obtain ⟨-, hf⟩ := m_chkE hf
  obtain ⟨-, hf⟩ := m_chkE hf
  obtain ⟨-, hf⟩ := m_chkE hf
  obtain ⟨v4, e_v4, hf⟩ := m_bndE hf
  rw [bb] at e_v4
  rcases m_optE hf with ⟨n_b5, hf⟩ | ⟨b5, h_b5, hf⟩
  · skip
    rw [n_b5] at e_v4
    have T0 : 18 ≤ zK S2 (zt S2) := T2.2.2.2.2.1 _ (Nat.le_refl _)
    have T1 : 18 ≤ zK S2 (zt S2 + 1) := T2.2.2.2.2.1 _ (by omega)
    obtain ⟨-, hf⟩ := m_chkE hf
    replace hf := m_calY hf P2
    obtain ⟨-, hf⟩ := m_chkE hf
    obtain ⟨q7, e_q7, hf⟩ := m_bndE hf
    obtain ⟨S8, e_S8, hf⟩ := m_bndE hf
    rw [e_q7] at e_S8 hf
    rw [e_S8] at hf
    obtain ⟨⟨r12, S13⟩, h_r12, hf⟩ := m_cal2E hf
    dsimp only at hf
    rw [init4 S2] at h_r12
    cases h_r12
    obtain ⟨-, hf⟩ := m_chkE hf
    obtain ⟨-, hf⟩ := m_chkE hf
    obtain ⟨-, hf⟩ := m_chkE hf
    obtain ⟨S16, e_S16, hf⟩ := m_bndE hf
    have hz : zB S2 (g + 5) (tn T + 1) = none := by rw [bb]; exact e_v4.symm
    have kb2 : zK S2 (g + 5) = 16 := by rw [kk]; exact k5
    obtain ⟨TX, -⟩ := rm_node (i := tn T + 1) T2 kb2 hz (by omega)
    obtain ⟨f1, f2, f3, f4, f5⟩ := nd_f S2
    obtain ⟨g1, g2, g3, -⟩ := nd_e S2
    have nN : ∀ a, zK S a < 18 → ¬ (a = zt S2 ∨ a = zt S2 + 1) := fun a ha e => by
      have := T2.2.2.2.2.1 a (by omega)
      rw [kk] at this
      omega
    have KX : ∀ a, zK S a < 18 → zK S16 a = zK S a := fun a ha => by
      rw [e_S16]
      show zK (zNd S2) a = _
      rw [f1 a (nN a ha), kk]
    have BX : ∀ a, a ≠ g + 5 → zB S16 a = zB S a := fun a ha => by
      rw [e_S16]
      show va_up (zB (zNd S2)) (g + 5) _ a = _
      rw [va_up_ne _ _ ha, g3, bb]
    have IX' : ∀ a j, zK S a < 18 → zI S16 j a = zI S2 j a := fun a j ha => by
      rw [e_S16]
      show zI (zNd S2) j a = _
      rw [f2 a j (nN a ha)]
    have PX : ∀ a j, zK S a < 18 → zP S16 j a = zP S j a := fun a j ha => by
      rw [e_S16]
      show zP (zNd S2) j a = _
      rw [f3 a j (nN a ha), pp]
    have NX : ∀ a, zN S16 a = zN S a := fun a => by
      rw [e_S16]
      show zN (zNd S2) a = _
      rw [g1, e_S2]; rfl
    have AX : ∀ a, zA S16 a = zA S a := fun a => by
      rw [e_S16]
      show zA (zNd S2) a = _
      rw [g2, e_S2]; rfl
    refine ⟨S16, zt S2, ⟨⟨?_, fun i hi => ?_⟩, ?_, fun j hj => ?_, fun a ha => ?_, Or.inr ⟨by rw [← kk]; exact T0, by rw [← kk]; exact T1⟩, ⟨T2.2.2.2.2.2.2.2.2.2.2.1, ?_, ?_, ?_⟩, by rw [e_S16]; exact TX⟩, hf⟩
    · rw [e_S16]
      show va_up (zB (zNd S2)) (g + 5) (va_up (zB (zNd S2) (g + 5)) (tn T + 1) (some (zt S2))) (g + 5) (tn T + 1) = _
      rw [va_up_self, va_up_self]
    · rw [e_S16]
      show va_up (zB (zNd S2)) (g + 5) (va_up (zB (zNd S2) (g + 5)) (tn T + 1) (some (zt S2))) (g + 5) i = _
      rw [va_up_self, va_up_ne _ _ hi, g3, bb]
    · rw [IX' g 3 (by rw [kg]; decide), i2]; omega
    · rw [IX' g j (by rw [kg]; decide), e_S2]; exact zI_j hj
    · refine ⟨⟨KX a ha, NX a, fun _ j => PX a j ha, fun k15 => BX a (fun e => by rw [e, k5] at k15; omega)⟩, fun hw => ⟨KX a ha, NX a, fun j => ?_, fun j => PX a j ha, BX a (fun e => hw (Or.inr e)), fun _ => AX a, fun _ c _ => AX c⟩⟩
      rw [IX' a j ha, e_S2]
      exact zI_b (fun e => hw (Or.inl e))
    · rw [e_S16]; exact f4
    · rw [e_S16]; exact zNd_p S2
    · rw [e_S16]; exact f5
  · skip
    rw [h_b5] at e_v4
    obtain ⟨a1, a2, a3, a4⟩ := G _ _ e_v4.symm
    refine ⟨S2, b5, ⟨⟨by rw [bb]; exact e_v4.symm, fun i _ => by rw [bb]⟩, by rw [i2]; omega, fun j hj => by rw [e_S2]; exact zI_j hj, fr_m F2 (fun a _ e => Or.inl e), Or.inl e_v4.symm, ⟨a1, by rw [kk]; exact a2, by rw [pp]; exact a3, by rw [kk]; exact a4⟩, T2⟩, hf⟩
/-- a node begins anew -/
theorem p_become {c : Nat} (hT : ZT S) (k4 : zK S c = 4) (p6 : zP S 6 c = some (c + 1)) (k6 : zK S (c + 1) = 6) (hf : f_X4_become c x1 x2 S = some o) : ZT o.2 ∧ FR (fun a => a = c ∨ a = c + 1) S o.2 ∧ (zI o.2 0 c = x1 ∧ zI o.2 1 c = x2 ∧ zI o.2 2 c = -1 ∧ zI o.2 3 c = -1) ∧ NMk o.2 c [] ∧ RWL o.2 (c + 1) [] := by
  have T2 : ZT o.2 := (ok_of (t_f_X4_become (SZ := S) (x1 := x1) (x2 := x2) hT (a7_0 S) k4) hf).1
  have hf : f_X4_become_0 c x1 x2 S = some o := hf
  unfold f_X4_become_0 at hf
  obtain ⟨-, hf⟩ := m_chkE hf
  obtain ⟨S1, e_S1, hf⟩ := m_bndE hf
  obtain ⟨-, hf⟩ := m_chkE hf
  obtain ⟨S2, e_S2, hf⟩ := m_bndE hf
  obtain ⟨-, hf⟩ := m_chkE hf
  obtain ⟨S3, e_S3, hf⟩ := m_bndE hf
  obtain ⟨-, hf⟩ := m_chkE hf
  obtain ⟨S4, e_S4, hf⟩ := m_bndE hf
  obtain ⟨-, hf⟩ := m_chkE hf
  obtain ⟨S5, e_S5, hf⟩ := m_bndE hf
  obtain ⟨-, hf⟩ := m_chkE hf
  obtain ⟨S6, e_S6, hf⟩ := m_bndE hf
  have p66 : zP S6 6 c = some (c + 1) := by rw [e_S6, e_S5, e_S4, e_S3, e_S2, e_S1]; exact p6
  have k66 : zK S6 (c + 1) = 6 := by rw [e_S6, e_S5, e_S4, e_S3, e_S2, e_S1]; exact k6
  have F6 : FR (fun a => a = c) S S6 := fr_t (fr_I e_S1) (fr_t (fr_I e_S2) (fr_t (fr_I e_S3) (fr_t (fr_I e_S4) (fr_t (fr_I e_S5) (fr_I e_S6)))))
  have nc : c ≠ c + 1 := by omega
  have e6 := fr_e F6 (show zK S (c + 1) < 18 by rw [k6]; decide) (fun e => nc e.symm)
  obtain ⟨w, hw⟩ : ∃ w, RWL S6 (c + 1) w := by
    obtain ⟨w, hw⟩ := rwl_ex hT k6
    exact ⟨w, eqc_rl e6 k6 hw⟩
  obtain ⟨-, hf⟩ := m_chkE hf
  replace hf := m_calY hf p66
  obtain ⟨-, hf⟩ := m_chkE hf
  obtain ⟨⟨r8, S8c⟩, h_r8, hf⟩ := m_calE hf
  dsimp only at hf
  obtain ⟨a1, a2, a3⟩ := p_keep hw (show (0 : Int) ≤ (0 : Int32).toInt by decide) h_r8
  rw [show (0 : Int32).toInt.toNat = 0 from rfl, List.take_zero] at a1
  have F8 := fr_r a2 k66
  have e8 := fr_e F8 (show zK S6 c < 18 by rw [e_S6, e_S5, e_S4, e_S3, e_S2, e_S1]; show zK S c < 18; rw [k4]; decide) nc
  cases hf
  try dsimp only
  refine ⟨T2, fr_t (fr_m F6 (fun a _ e => Or.inl e)) (fr_m F8 (fun a _ e => Or.inr e)), ⟨?_, ?_, ?_, ?_⟩, ⟨?_, ?_⟩, a1⟩
  · rw [e8.2.2.1, e_S6, zI_j (by decide), e_S5, zI_j (by decide), e_S4, zI_j (by decide), e_S3, zI_j (by decide), e_S2, zI_j (by decide), e_S1, zI_self]
  · rw [e8.2.2.1, e_S6, zI_j (by decide), e_S5, zI_j (by decide), e_S4, zI_j (by decide), e_S3, zI_j (by decide), e_S2, zI_self]
  · rw [e8.2.2.1, e_S6, zI_j (by decide), e_S5, zI_j (by decide), e_S4, zI_j (by decide), e_S3, zI_self]
  · rw [e8.2.2.1, e_S6, zI_j (by decide), e_S5, zI_j (by decide), e_S4, zI_self]
  · rw [e8.2.2.1, e_S6, zI_j (by decide), e_S5, zI_self]; rfl
  · rw [e8.2.2.1, e_S6, zI_self]; rfl
end GRC
