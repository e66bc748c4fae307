/-- the frame of the game reader's x0 work on its rows nr and vr -/
def GRF (S S' : ZS) (x0 nr vr : Nat) : Prop := (∀ a, zK S a < 18 → zK S' a = zK S a ∧ zN S' a = zN S a) ∧ (∀ a j, zK S a < 18 → a ≠ nr → a ≠ vr → ¬ (a = x0 ∧ (j = 4 ∨ j = 5)) → zI S' j a = zI S j a) ∧ (∀ a j, zK S a < 18 → a ≠ nr → a ≠ vr → zP S' j a = zP S j a) ∧ (∀ a, zK S a < 18 → zK S a ≠ 13 → zA S' a = zA S a) ∧ (∀ a, zK S a < 18 → zB S' a = zB S a) ∧ (∀ a c, zK S a = 6 → a ≠ nr → a ≠ vr → zP S 0 a = some c → zA S' c = zA S c)
section GRS
variable {S S1 S2 S' : ZS} {x0 nr vr : Nat}
theorem grf_0 : GRF S S x0 nr vr := ⟨fun _ _ => ⟨rfl, rfl⟩, fun _ _ _ _ _ _ => rfl, fun _ _ _ _ _ => rfl, fun _ _ _ => rfl, fun _ _ => rfl, fun _ _ _ _ _ _ => rfl⟩
theorem grf_t (h : GRF S S1 x0 nr vr) (g : GRF S1 S2 x0 nr vr) : GRF S S2 x0 nr vr := by
  obtain ⟨h1, h2, h3, h4, h5, h6⟩ := h
  obtain ⟨g1, g2, g3, g4, g5, g6⟩ := g
  have k : ∀ a, zK S a < 18 → zK S1 a < 18 := fun a ha => by rw [(h1 a ha).1]; exact ha
  refine ⟨fun a ha => ⟨(g1 a (k a ha)).1.trans (h1 a ha).1, (g1 a (k a ha)).2.trans (h1 a ha).2⟩, fun a j ha hb hc hd => (g2 a j (k a ha) hb hc hd).trans (h2 a j ha hb hc hd), fun a j ha hb hc => (g3 a j (k a ha) hb hc).trans (h3 a j ha hb hc), fun a ha hn => (g4 a (k a ha) (by rw [(h1 a ha).1]; exact hn)).trans (h4 a ha hn), fun a ha => (g5 a (k a ha)).trans (h5 a ha), fun a c ha hb hc hd => ?_⟩
  have ha2 : zK S a < 18 := by rw [ha]; decide
  exact (g6 a c (by rw [(h1 a ha2).1]; exact ha) hb hc (by rw [h3 a 0 ha2 hb hc]; exact hd)).trans (h6 a c ha hb hc hd)
theorem grf_w {b : Nat} (h : RWF S S' b) (hb : b = nr ∨ b = vr) : GRF S S' x0 nr vr := by
  obtain ⟨h1, h2, -, -, h5, h6, h7⟩ := h
  have ne : ∀ a, a ≠ nr → a ≠ vr → a ≠ b := fun a g1 g2 e => hb.elim (fun g => g1 (e.trans g)) (fun g => g2 (e.trans g))
  exact ⟨h1, fun a j ha hn hv _ => (h2 a j ha (ne a hn hv)).1, fun a j ha hn hv => (h2 a j ha (ne a hn hv)).2, h5, h6, fun a c ha hn hv hc => h7 a c ha (ne a hn hv) hc⟩
theorem grf_I {j : Nat} {v : Int32} (e : S' = zsI S j x0 v) (hj : j = 4 ∨ j = 5) : GRF S S' x0 nr vr := by
  subst e
  refine ⟨fun _ _ => ⟨rfl, rfl⟩, fun a i _ _ _ hn => ?_, fun _ _ _ _ _ => rfl, fun _ _ _ => rfl, fun _ _ => rfl, fun _ _ _ _ _ _ => rfl⟩
  by_cases e : a = x0
  · subst e
    have : i ≠ j := fun g => hn ⟨rfl, by rw [g]; exact hj⟩
    exact zI_j this
  · exact zI_b e
end GRS
/-- while the game reader reads: its text, the place, its name and value -/
def GRi (S0 S : ZS) (x0 tr nr vr : Nat) (ch : Int → Int) (N p : Int) (u w : List Int) : Prop := ZT S ∧ GRF S0 S x0 nr vr ∧ (zK S0 x0 = 2 ∧ zP S0 2 x0 = some tr ∧ zP S0 6 x0 = some nr ∧ zP S0 7 x0 = some vr) ∧ (zK S0 tr = 6 ∧ zK S0 nr = 6 ∧ zK S0 vr = 6 ∧ rc nr = 1 ∧ rc vr = 1 ∧ nr ≠ tr ∧ vr ≠ tr ∧ nr ≠ vr) ∧ (rwC S0 tr = ch ∧ (zI S0 1 tr).toInt = N ∧ N ≤ 2000) ∧ (zI S 4 x0).toInt = p ∧ (0 ≤ p ∧ p ≤ 90000) ∧ RWL S nr u ∧ RWL S vr w
section GRN
variable {S0 S S1 S' : ZS} {x0 tr nr vr : Nat} {ch : Int → Int} {N p q a : Int} {u w : List Int} {o : Int32 × ZS}
theorem gri_k (h : GRi S0 S x0 tr nr vr ch N p u w) : zK S x0 = 2 ∧ zK S tr = 6 ∧ zK S nr = 6 ∧ zK S vr = 6 := by
  obtain ⟨-, hF, ⟨k2, -⟩, ⟨kt, kn, kv, -⟩, -⟩ := h
  exact ⟨by rw [(hF.1 x0 (by rw [k2]; decide)).1]; exact k2, by rw [(hF.1 tr (by rw [kt]; decide)).1]; exact kt, by rw [(hF.1 nr (by rw [kn]; decide)).1]; exact kn, by rw [(hF.1 vr (by rw [kv]; decide)).1]; exact kv⟩
theorem gri_x (h : GRi S0 S x0 tr nr vr ch N p u w) : x0 ≠ nr ∧ x0 ≠ vr ∧ x0 ≠ tr := by
  obtain ⟨-, -, ⟨k2, -⟩, ⟨kt, kn, kv, -⟩, -⟩ := h
  refine ⟨fun e => ?_, fun e => ?_, fun e => ?_⟩
  · rw [← e, k2] at kn; exact absurd kn (by decide)
  · rw [← e, k2] at kv; exact absurd kv (by decide)
  · rw [← e, k2] at kt; exact absurd kt (by decide)
theorem gri_P (h : GRi S0 S x0 tr nr vr ch N p u w) : zP S 2 x0 = some tr ∧ zP S 6 x0 = some nr ∧ zP S 7 x0 = some vr := by
  obtain ⟨n1, n2, -⟩ := gri_x h
  obtain ⟨-, hF, ⟨k2, p2, p6, p7⟩, -⟩ := h
  have e := fun j => hF.2.2.1 x0 j (by rw [k2]; decide) n1 n2
  exact ⟨by rw [e]; exact p2, by rw [e]; exact p6, by rw [e]; exact p7⟩
theorem gri_t (h : GRi S0 S x0 tr nr vr ch N p u w) : rwC S tr = ch ∧ (zI S 1 tr).toInt = N := by
  obtain ⟨-, -, n3⟩ := gri_x h
  obtain ⟨-, hF, -, ⟨kt, kn, kv, -, -, m1, m2, -⟩, ⟨hch, hN, -⟩, -⟩ := h
  have i1 := hF.2.1 tr 1 (by rw [kt]; decide) (fun e => m1 e.symm) (fun e => m2 e.symm) (fun e => n3 e.1.symm)
  have i2 := hF.2.2.1 tr 0 (by rw [kt]; decide) (fun e => m1 e.symm) (fun e => m2 e.symm)
  refine ⟨?_, by rw [i1]; exact hN⟩
  rw [← hch]
  funext i
  unfold rwC
  rw [i1, i2]
  cases he : zP S0 0 tr with
  | none => rfl
  | some c =>
    have e := hF.2.2.2.2.2 tr c kt (fun e => m1 e.symm) (fun e => m2 e.symm) he
    simp only [e]
theorem rwl_I {r j : Nat} {v : Int32} {l : List Int} (h : RWL S r l) (e : S' = zsI S j x0 v) (hr : x0 ≠ r) : RWL S' r l := by
  subst e
  have i1 : zI (zsI S j x0 v) 1 r = zI S 1 r := zI_b (fun e => hr e.symm)
  refine ⟨by rw [i1]; exact h.1, fun i => ?_⟩
  rw [← h.2 i]
  unfold rwC
  rw [i1]
  rfl
theorem gri_at {v : Int32} (h : GRi S0 S x0 tr nr vr ch N p u w) (e : S' = zsI S 4 x0 v) (hv : v.toInt = q) (hq : 0 ≤ q ∧ q ≤ 90000) : GRi S0 S' x0 tr nr vr ch N q u w := by
  obtain ⟨n1, n2, -⟩ := gri_x h
  have k2 := (gri_k h).1
  obtain ⟨hT, hF, a1, a2, a3, -, -, hu, hw⟩ := h
  exact ⟨e.symm ▸ zt_I hT k2 (by decide) (show (0 : Int) ≤ v.toInt ∧ v.toInt ≤ (90100 : Int) by omega), grf_t hF (grf_I e (Or.inl rfl)), a1, a2, a3, by rw [e, zI_self]; exact hv, hq, rwl_I hu e n1, rwl_I hw e n2⟩
theorem gri_fl {v : Int32} (h : GRi S0 S x0 tr nr vr ch N p u w) (e : S' = zsI S 5 x0 v) : GRi S0 S' x0 tr nr vr ch N p u w := by
  obtain ⟨n1, n2, -⟩ := gri_x h
  have k2 := (gri_k h).1
  obtain ⟨hT, hF, a1, a2, a3, a4, a5, hu, hw⟩ := h
  exact ⟨e.symm ▸ zt_W hT k2 (by decide) rfl, grf_t hF (grf_I e (Or.inr rfl)), a1, a2, a3, by rw [e, zI_j (by decide)]; exact a4, a5, rwl_I hu e n1, rwl_I hw e n2⟩
theorem rwf_l {b r : Nat} {l : List Int} (h : RWF S S' b) (hr : zK S r = 6) (hb : r ≠ b) (hl : RWL S r l) : RWL S' r l := by
  refine ⟨by rw [(h.2.1 r 1 (by rw [hr]; decide) hb).1]; exact hl.1, fun i => ?_⟩
  rw [rwf_rw h hr hb]
  exact hl.2 i
/-- a sign more in the name, or in the value -/
theorem gri_pn {c y : Int32} (h : GRi S0 S x0 tr nr vr ch N p u w) (hl : (u.length : Int) < 2000) (hc : 0 ≤ c.toInt ∧ c.toInt ≤ 65535) (hf : d_X6_put nr c S = some (y, S')) : GRi S0 S' x0 tr nr vr ch N p (u ++ [c.toInt]) w := by
  obtain ⟨n1, n2, -⟩ := gri_x h
  obtain ⟨k2, kt, kn, kv⟩ := gri_k h
  obtain ⟨hT, hF, a1, a2, a3, a4, a5, hu, hw⟩ := h
  have rl : rL nr = 2000 := by
    unfold rL
    rw [a2.2.2.2.1, if_neg (by decide), if_pos (Or.inl rfl)]
  have T1 : ZT S' := (ok_of (t_d_X6_put (SZ := S) hT (rp_0 S) kn hc (by rw [rl, hu.1]; exact hl) (by rw [a2.2.2.2.1]; decide)) hf).1
  obtain ⟨g1, g2⟩ := p_rput hT kn hu (by omega) hc hf
  exact ⟨T1, grf_t hF (grf_w g2 (Or.inl rfl)), a1, a2, a3, by rw [(g2.2.1 x0 4 (by rw [k2]; decide) n1).1]; exact a4, a5, g1, rwf_l g2 kv (fun e => a2.2.2.2.2.2.2.2 e.symm) hw⟩
theorem gri_pv {c y : Int32} (h : GRi S0 S x0 tr nr vr ch N p u w) (hl : (w.length : Int) < 2000) (hc : 0 ≤ c.toInt ∧ c.toInt ≤ 65535) (hf : d_X6_put vr c S = some (y, S')) : GRi S0 S' x0 tr nr vr ch N p u (w ++ [c.toInt]) := by
  obtain ⟨n1, n2, -⟩ := gri_x h
  obtain ⟨k2, kt, kn, kv⟩ := gri_k h
  obtain ⟨hT, hF, a1, a2, a3, a4, a5, hu, hw⟩ := h
  have rl : rL vr = 2000 := by
    unfold rL
    rw [a2.2.2.2.2.1, if_neg (by decide), if_pos (Or.inl rfl)]
  have T1 : ZT S' := (ok_of (t_d_X6_put (SZ := S) hT (rp_0 S) kv hc (by rw [rl, hw.1]; exact hl) (by rw [a2.2.2.2.2.1]; decide)) hf).1
  obtain ⟨g1, g2⟩ := p_rput hT kv hw (by omega) hc hf
  exact ⟨T1, grf_t hF (grf_w g2 (Or.inr rfl)), a1, a2, a3, by rw [(g2.2.1 x0 4 (by rw [k2]; decide) n2).1]; exact a4, a5, rwf_l g2 kn a2.2.2.2.2.2.2.2 hu, g1⟩
theorem gri_kn {y : Int32} (h : GRi S0 S x0 tr nr vr ch N p u w) (hf : f_X6_keep nr 0 S = some (y, S')) : GRi S0 S' x0 tr nr vr ch N p [] w := by
  obtain ⟨n1, n2, -⟩ := gri_x h
  obtain ⟨k2, kt, kn, kv⟩ := gri_k h
  obtain ⟨hT, hF, a1, a2, a3, a4, a5, hu, hw⟩ := h
  have T1 : ZT S' := (ok_of (t_f_X6_keep (SZ := S) hT (a7_0 S) kn (by rw [a2.2.2.2.1]; decide)) hf).1
  obtain ⟨g1, g2, -⟩ := p_keep hu (show (0 : Int) ≤ (0 : Int32).toInt by decide) hf
  rw [show (0 : Int32).toInt.toNat = 0 from rfl, List.take_zero] at g1
  exact ⟨T1, grf_t hF (grf_w g2 (Or.inl rfl)), a1, a2, a3, by rw [(g2.2.1 x0 4 (by rw [k2]; decide) n1).1]; exact a4, a5, g1, rwf_l g2 kv (fun e => a2.2.2.2.2.2.2.2 e.symm) hw⟩
theorem gri_kv {y : Int32} (h : GRi S0 S x0 tr nr vr ch N p u w) (hf : f_X6_keep vr 0 S = some (y, S')) : GRi S0 S' x0 tr nr vr ch N p u [] := by
  obtain ⟨n1, n2, -⟩ := gri_x h
  obtain ⟨k2, kt, kn, kv⟩ := gri_k h
  obtain ⟨hT, hF, a1, a2, a3, a4, a5, hu, hw⟩ := h
  have T1 : ZT S' := (ok_of (t_f_X6_keep (SZ := S) hT (a7_0 S) kv (by rw [a2.2.2.2.2.1]; decide)) hf).1
  obtain ⟨g1, g2, -⟩ := p_keep hw (show (0 : Int) ≤ (0 : Int32).toInt by decide) hf
  rw [show (0 : Int32).toInt.toNat = 0 from rfl, List.take_zero] at g1
  exact ⟨T1, grf_t hF (grf_w g2 (Or.inr rfl)), a1, a2, a3, by rw [(g2.2.1 x0 4 (by rw [k2]; decide) n2).1]; exact a4, a5, rwf_l g2 kn a2.2.2.2.2.2.2.2 hu, g1⟩
theorem p_refuse {x1 x2 : Int32} (h1 : 0 ≤ x1.toInt ∧ x1.toInt ≤ 10) (h2 : 0 ≤ x2.toInt ∧ x2.toInt ≤ 100000) (hf : f_X2_refuse x0 x1 x2 S = some o) : o.1.toInt = 0 ∧ ∃ v : Int32, v.toInt = 10000 * x1.toInt + x2.toInt ∧ o.2 = zsI S 5 x0 v := by
  have hf : f_X2_refuse_0 x0 x1 x2 S = some o := hf
  unfold f_X2_refuse_0 at hf
  obtain ⟨v1, e_v1, hf⟩ := m_bndE hf
  have t_v1 : v1.toInt = 10000 * x1.toInt := ti_mul e_v1 (show (10000 : Int32).toInt = 10000 from rfl) rfl (by omega) (by omega)
  obtain ⟨v2, e_v2, hf⟩ := m_bndE hf
  have t_v2 : v2.toInt = v1.toInt + x2.toInt := ti_add e_v2 rfl rfl (by omega) (by omega)
  obtain ⟨-, hf⟩ := m_chkE hf
  obtain ⟨S3, e_S3, hf⟩ := m_bndE hf
  obtain ⟨-, hf⟩ := m_chkE hf
  cases hf
  try dsimp only
  exact ⟨rfl, v2, by omega, e_S3⟩
theorem gri_bl (h : GRi S0 S x0 tr nr vr ch N p u w) (hf : f_X2_skipBlanks x0 S = some o) : ∃ a, BL ch p a ∧ GRi S0 o.2 x0 tr nr vr ch N a u w ∧ (a ≤ p ∨ a ≤ N) := by
  obtain ⟨k2, kt, -, -⟩ := gri_k h
  obtain ⟨P2, -, -⟩ := gri_P h
  obtain ⟨hc, hN⟩ := gri_t h
  have h4 := h.2.2.2.2.2.1
  have hp := h.2.2.2.2.2.2.1
  have hn := h.2.2.2.2.1.2.2
  obtain ⟨v, g1, g2, g3⟩ := p_skipBlanks k2 kt P2 hc (by omega) (by omega) hf
  rw [h4] at g1 g3
  rw [hN] at g3
  have := g1.1
  exact ⟨v.toInt, g1, gri_at h g2 rfl (by omega), g3⟩
/-- the signs from a on, k of them -/
def wr (ch : Int → Int) (a : Int) : Nat → List Int
  | 0 => []
  | k + 1 => wr ch a k ++ [ch (a + (k : Int))]
theorem wr_len {ch : Int → Int} {a : Int} : ∀ k : Nat, (wr ch a k).length = k
  | 0 => rfl
  | k + 1 => by
    show (wr ch a k ++ [ch (a + (k : Int))]).length = k + 1
    rw [List.length_append, wr_len k]
    rfl
def nmC (c : Int) : Prop := isL c ∨ isD c
/-- a name from a to b -/
def NM (ch : Int → Int) (a b : Int) : Prop := a ≤ b ∧ (∀ j, a ≤ j → j < b → nmC (ch j)) ∧ ¬ nmC (ch b)
theorem rn_101 (h : GRi S0 S x0 tr nr vr ch N p u w) (hf : d_X2_readName_101 x0 S = some o) : (u ≠ [] ∧ o.1.toInt = 1 ∧ o.2 = S) ∨ (u = [] ∧ o.1.toInt = 0 ∧ GRi S0 o.2 x0 tr nr vr ch N p u w ∧ (zI o.2 5 x0).toInt = 10000 + p) := by
  obtain ⟨k2, kt, kn, kv⟩ := gri_k h
  obtain ⟨P2, P6, P7⟩ := gri_P h
  have h4 := h.2.2.2.2.2.1
  have hp := h.2.2.2.2.2.2.1
  have hu := h.2.2.2.2.2.2.2.1
  have z1 : (1 : Int32).toInt = 1 := rfl
  unfold d_X2_readName_101 at hf
  obtain ⟨-, hf⟩ := m_chkE hf
  replace hf := m_calY hf P6
  obtain ⟨-, hf⟩ := m_chkE hf
  obtain ⟨r2, h_r2, hf⟩ := m_calR hf (fun _ h => ro_X6_size h)
  dsimp only at hf
  have p_r2 := pc_X6_size h_r2
  dsimp only at p_r2
  have q2 : r2.toInt = (u.length : Int) := by rw [p_r2]; exact hu.1
  obtain ⟨-, hf⟩ := m_chkE hf
  rcases m_ifE hf with ⟨c1, hf⟩ | ⟨c1, hf⟩
  · skip
    replace c1 := ti_ltP (a := (0 : Int32)) (b := r2) c1 (show (0 : Int32).toInt = 0 from rfl) rfl
    unfold d_X2_readName_123 at hf
    unfold d_X2_readName_128 at hf
    obtain ⟨-, hf⟩ := m_chkE hf
    cases hf
    try dsimp only
    refine Or.inl ⟨fun e => ?_, rfl, rfl⟩
    rw [e] at q2
    have : ((([] : List Int).length : Nat) : Int) = 0 := rfl
    omega
  · skip
    replace c1 := ti_ltN (a := (0 : Int32)) (b := r2) c1 (show (0 : Int32).toInt = 0 from rfl) rfl
    obtain ⟨-, hf⟩ := m_chkE hf
    obtain ⟨-, hf⟩ := m_chkE hf
    obtain ⟨⟨r3, S3c⟩, h_r3, hf⟩ := m_calE hf
    dsimp only at hf
    obtain ⟨g1, v, g2, g3⟩ := p_refuse (x1 := 1) (x2 := zI S 4 x0) (by decide) (by omega) h_r3
    dsimp only at g1 g2 g3
    have hu0 : u = [] := List.eq_nil_of_length_eq_zero (by omega)
    obtain ⟨-, hf⟩ := m_chkE hf
    rcases m_ifE hf with ⟨c2, hf⟩ | ⟨c2, hf⟩
    · skip
      replace c2 := ti_eqP (a := r3) (b := (0 : Int32)) c2 rfl (show (0 : Int32).toInt = 0 from rfl)
      unfold d_X2_readName_128 at hf
      obtain ⟨-, hf⟩ := m_chkE hf
      cases hf
      try dsimp only
      exact Or.inr ⟨hu0, rfl, gri_fl h g3, by rw [g3, zI_self, g2]; omega⟩
    · skip
      replace c2 := ti_eqN (a := r3) (b := (0 : Int32)) c2 rfl (show (0 : Int32).toInt = 0 from rfl)
      unfold d_X2_readName_123 at hf
      unfold d_X2_readName_128 at hf
      obtain ⟨-, hf⟩ := m_chkE hf
      cases hf
      try dsimp only
      omega
theorem rn_22 : ∀ (n : Nat) (S : ZS) (k : Nat), GRi S0 S x0 tr nr vr ch N (a + (k : Int)) (wr ch a k) w → (∀ j, a ≤ j → j < a + (k : Int) → nmC (ch j)) → 0 ≤ a → (∀ i, 0 ≤ ch i ∧ ch i ≤ 127) → d_X2_readName_22 n x0 S = some o → ∃ b, NM ch a b ∧ GRi S0 o.2 x0 tr nr vr ch N b (wr ch a (b - a).toNat) w ∧ ((a < b ∧ o.1.toInt = 1) ∨ (a = b ∧ o.1.toInt = 0 ∧ (zI o.2 5 x0).toInt = 10000 + b)) := by
  intro n
  induction n with
  | zero => intro S k _ _ _ _ hf; cases hf
  | succ n ih =>
    intro S k h hd h0 hcb hf
    have hf : d_X2_readName_22s (d_X2_readName_22 n) x0 S = some o := hf
    obtain ⟨k2, kt, kn, kv⟩ := gri_k h
    obtain ⟨P2, P6, P7⟩ := gri_P h
    obtain ⟨hc, hN⟩ := gri_t h
    have h4 := h.2.2.2.2.2.1
    have hp := h.2.2.2.2.2.2.1
    have hn := h.2.2.2.2.1.2.2
    have b0 := hcb (a + (k : Int))
    have out : N ≤ a + (k : Int) → ch (a + (k : Int)) = 0 := fun g => by rw [← hc]; exact rw_out (by omega)
    have stop : ¬ nmC (ch (a + (k : Int))) → d_X2_readName_101 x0 S = some o → ∃ b, NM ch a b ∧ GRi S0 o.2 x0 tr nr vr ch N b (wr ch a (b - a).toNat) w ∧ ((a < b ∧ o.1.toInt = 1) ∨ (a = b ∧ o.1.toInt = 0 ∧ (zI o.2 5 x0).toInt = 10000 + b)) := by
      intro hs hf
      have e : (a + (k : Int) - a).toNat = k := by omega
      refine ⟨a + (k : Int), ⟨by omega, hd, hs⟩, ?_⟩
      rw [e]
      rcases rn_101 h hf with ⟨g1, g2, g3⟩ | ⟨g1, g2, g3, g4⟩
      · refine ⟨by rw [g3]; exact h, Or.inl ⟨?_, g2⟩⟩
        have : k ≠ 0 := fun e => g1 (by rw [e]; rfl)
        omega
      · refine ⟨g3, Or.inr ⟨?_, g2, g4⟩⟩
        have := wr_len (ch := ch) (a := a) k
        rw [g1] at this
        have : (0 : Nat) = k := this
        omega
    have more : nmC (ch (a + (k : Int))) → a + (k : Int) < N → d_X2_readName_70 (d_X2_readName_22 n) x0 S = some o → ∃ b, NM ch a b ∧ GRi S0 o.2 x0 tr nr vr ch N b (wr ch a (b - a).toNat) w ∧ ((a < b ∧ o.1.toInt = 1) ∨ (a = b ∧ o.1.toInt = 0 ∧ (zI o.2 5 x0).toInt = 10000 + b)) := by
      intro hs hlt hf
      unfold d_X2_readName_70 at hf
      obtain ⟨-, hf⟩ := m_chkE hf
      replace hf := m_calY hf P6
      obtain ⟨-, hf⟩ := m_chkE hf
      replace hf := m_calY hf P2
      obtain ⟨-, hf⟩ := m_chkE hf
      obtain ⟨-, hf⟩ := m_chkE hf
      obtain ⟨r3, h_r3, hf⟩ := m_calR hf (fun _ h => ro_X6_at h)
      dsimp only at hf
      have p_r3 := pc_X6_at h_r3
      dsimp only at p_r3
      rw [hc, h4] at p_r3
      obtain ⟨-, hf⟩ := m_chkE hf
      obtain ⟨-, hf⟩ := m_chkE hf
      obtain ⟨⟨r5, S6⟩, h_r5, hf⟩ := m_cal2E hf
      dsimp only at hf
      have G6 := gri_pn h (by rw [wr_len]; omega) (by omega) h_r5
      have h64 := G6.2.2.2.2.2.1
      rw [p_r3] at G6
      obtain ⟨-, hf⟩ := m_chkE hf
      obtain ⟨v9, e_v9, hf⟩ := m_bndE hf
      have t_v9 : v9.toInt = (zI S6 4 x0).toInt + 1 := ti_add e_v9 rfl (show (1 : Int32).toInt = 1 from rfl) (by omega) (by omega)
      obtain ⟨-, hf⟩ := m_chkE hf
      obtain ⟨S10, e_S10, hf⟩ := m_bndE hf
      have G10 : GRi S0 S10 x0 tr nr vr ch N (a + ((k + 1 : Nat) : Int)) (wr ch a (k + 1)) w := gri_at G6 e_S10 (by omega) (by omega)
      refine ih S10 (k + 1) G10 (fun j j0 j1 => ?_) h0 hcb hf
      by_cases e : j = a + (k : Int)
      · rw [e]; exact hs
      · exact hd j j0 (by omega)
    unfold d_X2_readName_22s at hf
    obtain ⟨-, hf⟩ := m_chkE hf
    obtain ⟨-, hf⟩ := m_chkE hf
    replace hf := m_calY hf P2
    obtain ⟨-, hf⟩ := m_chkE hf
    obtain ⟨r2, h_r2, hf⟩ := m_calR hf (fun _ h => ro_X6_size h)
    dsimp only at hf
    have p_r2 := pc_X6_size h_r2
    dsimp only at p_r2
    have q2 : r2.toInt = N := by rw [p_r2]; exact hN
    obtain ⟨-, hf⟩ := m_chkE hf
    rcases m_ifE hf with ⟨c1, hf⟩ | ⟨c1, hf⟩
    · skip
      replace c1 := ti_leP (a := r2) (b := (zI S 4 x0)) c1 rfl rfl
      refine stop ?_ hf
      rw [out (by omega)]
      unfold nmC isL isD
      omega
    · skip
      replace c1 := ti_leN (a := r2) (b := (zI S 4 x0)) c1 rfl rfl
      obtain ⟨-, hf⟩ := m_chkE hf
      replace hf := m_calY hf P2
      obtain ⟨-, hf⟩ := m_chkE hf
      obtain ⟨-, hf⟩ := m_chkE hf
      obtain ⟨r4, h_r4, hf⟩ := m_calR hf (fun _ h => ro_X6_at h)
      dsimp only at hf
      have p_r4 := pc_X6_at h_r4
      dsimp only at p_r4
      rw [hc, h4] at p_r4
      obtain ⟨-, hf⟩ := m_chkE hf
      obtain ⟨r5, h_r5, hf⟩ := m_calR hf (fun _ h => ro_X11_isLetter h)
      dsimp only at hf
      have p_r5 := pc_X11_isLetter h_r5
      dsimp only at p_r5
      rw [p_r4] at p_r5
      obtain ⟨-, hf⟩ := m_chkE hf
      rcases m_ifE hf with ⟨c2, hf⟩ | ⟨c2, hf⟩
      · skip
        replace c2 := ti_eqP (a := r5) (b := (0 : Int32)) c2 rfl (show (0 : Int32).toInt = 0 from rfl)
        obtain ⟨-, hf⟩ := m_chkE hf
        replace hf := m_calY hf P2
        obtain ⟨-, hf⟩ := m_chkE hf
        obtain ⟨-, hf⟩ := m_chkE hf
        obtain ⟨r7, h_r7, hf⟩ := m_calR hf (fun _ h => ro_X6_at h)
        dsimp only at hf
        have p_r7 := pc_X6_at h_r7
        dsimp only at p_r7
        rw [hc, h4] at p_r7
        obtain ⟨-, hf⟩ := m_chkE hf
        obtain ⟨r8, h_r8, hf⟩ := m_calR hf (fun _ h => ro_X11_isDigit h)
        dsimp only at hf
        have p_r8 := pc_X11_isDigit h_r8
        dsimp only at p_r8
        rw [p_r7] at p_r8
        obtain ⟨-, hf⟩ := m_chkE hf
        rcases m_ifE hf with ⟨c3, hf⟩ | ⟨c3, hf⟩
        · skip
          replace c3 := ti_eqP (a := r8) (b := (0 : Int32)) c3 rfl (show (0 : Int32).toInt = 0 from rfl)
          refine stop (fun g => ?_) hf
          rcases g with g | g
          · have := p_r5.2.2 g; omega
          · have := p_r8.2.2 g; omega
        · skip
          replace c3 := ti_eqN (a := r8) (b := (0 : Int32)) c3 rfl (show (0 : Int32).toInt = 0 from rfl)
          exact more (Or.inr (p_r8.2.1 (by omega))) (by omega) hf
      · skip
        replace c2 := ti_eqN (a := r5) (b := (0 : Int32)) c2 rfl (show (0 : Int32).toInt = 0 from rfl)
        exact more (Or.inl (p_r5.2.1 (by omega))) (by omega) hf
end GRN
