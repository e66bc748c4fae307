theorem wA_l {u v : List Int} {i : Int} (h : i < (u.length : Int)) : wA (u ++ v) i = wA u i := by
  by_cases c : i < 0
  · rw [wA_out (Or.inl c), wA_out (Or.inl c)]
  · obtain ⟨n, hn⟩ : ∃ n : Nat, i = (n : Int) := ⟨i.toNat, by omega⟩
    have c1 : n < u.length := by omega
    have c2 : n < (u ++ v).length := by rw [List.length_append]; omega
    rw [hn, wA_in c2, wA_in c1, List.getElem_append_left c1]
theorem wA_r {u : List Int} : ∀ {v : List Int} {i : Int}, (u.length : Int) ≤ i → wA (u ++ v) i = wA v (i - (u.length : Int)) := by
  intro v i h
  obtain ⟨n, hn⟩ : ∃ n : Nat, i = (u.length : Int) + (n : Int) := ⟨(i - (u.length : Int)).toNat, by omega⟩
  rw [show i - (u.length : Int) = (n : Int) by omega]
  by_cases c : n < v.length
  · have c2 : u.length + n < (u ++ v).length := by rw [List.length_append]; omega
    rw [show i = ((u.length + n : Nat) : Int) by omega, wA_in c2, wA_in c, List.getElem_append_right (by omega)]
    simp
  · rw [wA_out (w := u ++ v) (Or.inr (by rw [List.length_append]; omega)), wA_out (w := v) (Or.inr (by omega))]
theorem rmL_at {ch : Int → Int} {a : Int} {i : Nat} : ∀ {k : Nat}, i < k → wA (rmL ch a k) (i : Int) = rmC (ch (a + (i : Int))) := by
  intro k
  induction k with
  | zero => intro h; omega
  | succ k ih =>
    intro h
    show wA (rmL ch a k ++ [rmC (ch (a + (k : Int)))]) (i : Int) = _
    rw [wA_app, rmL_l]
    by_cases e : i = k
    · rw [if_pos (by omega), e]
    · rw [if_neg (by omega)]; exact ih (by omega)
/-- the reference at its text -/
def RV (I : Nat → Int32) (A : Nat → Nat → Int32) (ch : Int → Int) (N p : Int) : Prop := (TJ I ∧ TK A) ∧ (txR I A = ch ∧ (I 1).toInt = N ∧ (0 ≤ N ∧ N ≤ 2000)) ∧ (∀ i, 0 ≤ ch i ∧ ch i ≤ 127) ∧ (I 37).toInt = p ∧ 0 ≤ p ∧ p ≤ 2010
/-- the remark of the reference's node k -/
def NRr (A : Nat → Nat → Int32) (k : Nat) (r : List Int) : Prop := (A 14 k).toInt = (r.length : Int) ∧ ∀ i : Nat, i < r.length → (A 15 (200 * k + i)).toInt = wA r (i : Int)
/-- only the remark of node k changes -/
def RFm (I I' : Nat → Int32) (A A' : Nat → Nat → Int32) (k : Nat) : Prop := (∀ j, j ≠ 37 → I' j = I j) ∧ (∀ j, j ≠ 14 → j ≠ 15 → A' j = A j) ∧ (∀ i, i ≠ k → A' 14 i = A 14 i) ∧ ∀ i, (i < 200 * k ∨ 200 * k + 200 ≤ i) → A' 15 i = A 15 i
section RVS
variable {I I1 I2 I' : Nat → Int32} {A A1 A2 A' : Nat → Nat → Int32} {ch : Int → Int} {N p q : Int} {k : Nat} {r u : List Int} {o : Int32 × MS} {x1 x2 x3 x4 x5 x6 x7 x8 x9 x10 t0 : Int32}
theorem rfm_0 : RFm I I A A k := ⟨fun _ _ => rfl, fun _ _ _ => rfl, fun _ _ => rfl, fun _ _ => rfl⟩
theorem rfm_t (h : RFm I I1 A A1 k) (g : RFm I1 I2 A1 A2 k) : RFm I I2 A A2 k := ⟨fun j hj => (g.1 j hj).trans (h.1 j hj), fun j a b => (g.2.1 j a b).trans (h.2.1 j a b), fun i hi => (g.2.2.1 i hi).trans (h.2.2.1 i hi), fun i hi => (g.2.2.2 i hi).trans (h.2.2.2 i hi)⟩
theorem rfm_I {v : Int32} (e : I' = upd I 37 v) : RFm I I' A A k := ⟨fun j hj => by rw [e, upd_ne hj], fun _ _ _ => rfl, fun _ _ => rfl, fun _ _ => rfl⟩
theorem rv_at {v : Int32} (h : RV I A ch N p) (e : I' = upd I 37 v) (hv : v.toInt = q) (hq : 0 ≤ q ∧ q ≤ 2010) : RV I' A ch N q := by
  obtain ⟨⟨hI, hA⟩, ⟨hc, hN, hn⟩, hcb, -⟩ := h
  subst e
  refine ⟨⟨tj_u hI (show (0 : Int) ≤ v.toInt by omega) (show v.toInt ≤ (2100 : Int) by omega), hA⟩, ⟨?_, by rw [upd_ne (by decide)]; exact hN, hn⟩, hcb, by rw [upd_self]; exact hv, hq⟩
  rw [← hc]
  exact tx_fr (upd_ne (by decide)) rfl
theorem rv_A (h : RV I A ch N p) (hA : TK A') (h2 : A' 2 = A 2) : RV I A' ch N p := by
  obtain ⟨⟨hI, -⟩, ⟨hc, hN, hn⟩, hcb, h4⟩ := h
  exact ⟨⟨hI, hA⟩, ⟨by rw [tx_fr rfl h2]; exact hc, hN, hn⟩, hcb, h4⟩
theorem rv_lk (h : RV I A ch N p) (hf : f_look I A = some o) : o.1.toInt = ch p := by
  obtain ⟨-, ⟨hc, -⟩, -, h37, hp⟩ := h
  have g1 := pc_look hf (by omega)
  rw [hc, h37] at g1
  exact g1
theorem rv_bl (h : RV I A ch N p) (hf : f_blanks I A = some o) : BL ch p (blk ch p) ∧ RV o.2.1 o.2.2 ch N (blk ch p) ∧ o.2.2 = A ∧ (∀ j, j ≠ 37 → o.2.1 j = I j) ∧ (blk ch p ≤ p ∨ blk ch p ≤ N) := by
  obtain ⟨-, ⟨hc, hn, hn2⟩, -, h37, hp⟩ := id h
  obtain ⟨v, g1, g2, g3⟩ := p_blanks hc (by omega) (by omega) hf
  rw [h37] at g1 g3
  rw [hn] at g3
  have e := blk_e g1
  have := g1.1
  rw [e, g2]
  exact ⟨g1, rv_at h rfl rfl (by omega), rfl, fun j hj => upd_ne hj, g3⟩
theorem rv_out (h : RV I A ch N p) {i : Int} (hi : N ≤ i) : ch i = 0 := by
  obtain ⟨-, ⟨hc, hN, -⟩, -⟩ := h
  rw [← hc]; exact tx_out (by omega)
theorem rv_tx {x v : Int32} (h : RV I A ch N p) (e : v = A 2 x.toNatClampNeg) (h1 : 0 ≤ x.toInt) (h2 : x.toInt < N) : v.toInt = ch x.toInt := by
  obtain ⟨-, ⟨hc, hN, -⟩, -⟩ := h
  rw [← hc]; exact tx_at e h1 (by omega)
theorem cl_n {x : Int32} {n : Nat} (h : x.toInt = (n : Int)) : x.toNatClampNeg = n := by
  have : x.toNatClampNeg = x.toInt.toNat := rfl
  rw [this, h]; rfl
/-- what comes behind a remark's signs -/
theorem rm_344 {self4 : Int32 → Int32 → (Nat → Int32) → (Nat → Nat → Int32) → Option (Int32 × MS)} (h : RV I A ch N p) (ht : t0.toInt = q) (hq : 0 ≤ q ∧ q ≤ N) (hf : f_readRemarks_344 self4 x1 x2 t0 I A = some o) : ∃ I2, RV I2 A ch N (blk ch q) ∧ (∀ j, j ≠ 37 → I2 j = I j) ∧ BL ch q (blk ch q) ∧ blk ch q ≤ N ∧ self4 x1 x2 I2 A = some o := by
  have hn := h.2.1.2.2
  unfold f_readRemarks_344 at hf
  obtain ⟨I1, e_I1, hf⟩ := m_bndE hf
  have R1 : RV I1 A ch N q := rv_at h e_I1 ht (by omega)
  obtain ⟨⟨r2, Ic2, Ac2⟩, h_r2, hf⟩ := m_clE hf
  dsimp only at hf
  obtain ⟨b1, b2, b3, b4, b5⟩ := rv_bl R1 h_r2
  dsimp only at b2 b3 b4
  rw [b3] at b2 hf
  exact ⟨Ic2, b2, fun j hj => by rw [b4 j hj, e_I1, upd_ne hj], b1, by omega, hf⟩
theorem rm_247 {self4 : Int32 → Int32 → (Nat → Int32) → (Nat → Nat → Int32) → Option (Int32 × MS)} {n0 a : Int} {A0 : Nat → Nat → Int32} (h4 : x4.toInt = 0 ∨ x4.toInt = 1) (h5 : x5.toInt = a) (ha : 0 ≤ a) (h6 : x6.toInt = n0) (hn0 : 0 ≤ n0 ∧ a + n0 ≤ N) (h7 : x7.toInt = (k : Int)) (hk : k ≤ 601) (h8 : x8.toInt = (r.length : Int)) (h9 : x9.toInt = if n0.toNat = 0 ∨ r = [] then 0 else 1) (hl : ((jnR r ch a n0.toNat).length : Int) ≤ 200) (hp9 : p + x4.toInt ≤ N) : ∀ (n : Nat) (x10 : Int32) (A : Nat → Nat → Int32) (i : Nat), x10.toInt = (i : Int) → (i : Int) ≤ n0 → RV I A ch N p → RFm I I A0 A k → (∀ j : Nat, (j : Int) < (r.length : Int) + x9.toInt + (i : Int) → (A 15 (200 * k + j)).toInt = wA (jnR r ch a n0.toNat) (j : Int)) → f_readRemarks_247 self4 n x1 x2 x4 x5 x6 x7 x8 x9 x10 I A = some o → ∃ I2 A2, RV I2 A2 ch N (blk ch (p + x4.toInt)) ∧ RFm I I2 A0 A2 k ∧ NRr A2 k (jnR r ch a n0.toNat) ∧ BL ch (p + x4.toInt) (blk ch (p + x4.toInt)) ∧ blk ch (p + x4.toInt) ≤ N ∧ self4 x1 x2 I2 A2 = some o := by
  intro n
  induction n with
  | zero => intro x10 A i _ _ _ _ _ hf; cases hf
  | succ n ih =>
    intro x10 A i hx hi hR hF hw hf
    have hf : f_readRemarks_247s self4 (f_readRemarks_247 self4 n) x1 x2 x4 x5 x6 x7 x8 x9 x10 I A = some o := hf
    obtain ⟨⟨hI, hA⟩, ⟨hc, hN, hn⟩, hcb, h37, hp⟩ := id hR
    have jl := jnR_l (r := r) (ch := ch) (a := a) (k := n0.toNat)
    rw [← h9] at jl
    have xb : x9.toInt = 0 ∨ x9.toInt = 1 := by rw [h9]; split <;> omega
    have xn7 : x7.toNatClampNeg = k := cl_n h7
    have fin : ∀ (A3 : Nat → Nat → Int32) (v2 : Int32), v2.toInt = ((jnR r ch a n0.toNat).length : Int) → A3 = va_up A 14 (upd (A 14) x7.toNatClampNeg v2) → n0 ≤ (i : Int) → RV I A3 ch N p ∧ RFm I I A0 A3 k ∧ NRr A3 k (jnR r ch a n0.toNat) := by
      intro A3 v2 hv e hni
      rw [xn7] at e
      have o3 : ∀ j, j ≠ 14 → A3 j = A j := fun j hj => by rw [e]; exact va_up_ne _ _ hj
      have s3 : A3 14 = upd (A 14) k v2 := by rw [e]; exact va_up_self _ _ _
      refine ⟨rv_A hR (by rw [e]; exact tk_u hA (show (0 : Int) ≤ v2.toInt by omega) (show v2.toInt ≤ (200 : Int) by omega)) (o3 2 (by decide)), ⟨hF.1, fun j j1 j2 => (o3 j j1).trans (hF.2.1 j j1 j2), fun j hj => by rw [s3, upd_ne hj]; exact hF.2.2.1 j hj, fun j hj => by rw [o3 15 (by decide)]; exact hF.2.2.2 j hj⟩, by rw [s3, upd_self]; exact hv, fun j hj => ?_⟩
      rw [o3 15 (by decide)]
      exact hw j (by omega)
    have go : ∀ (t0 v8 : Int32), t0.toInt = rmC (ch (a + (i : Int))) → v8.toInt = ((200 * k : Nat) : Int) + (r.length : Int) + x9.toInt + (i : Int) → (i : Int) < n0 → f_readRemarks_303 self4 (f_readRemarks_247 self4 n) x1 x2 x4 x5 x6 x7 x8 x9 x10 t0 v8 I A = some o → ∃ I2 A2, RV I2 A2 ch N (blk ch (p + x4.toInt)) ∧ RFm I I2 A0 A2 k ∧ NRr A2 k (jnR r ch a n0.toNat) ∧ BL ch (p + x4.toInt) (blk ch (p + x4.toInt)) ∧ blk ch (p + x4.toInt) ≤ N ∧ self4 x1 x2 I2 A2 = some o := by
      intro t0 v8 ht hv hlt hf
      unfold f_readRemarks_303 at hf
      obtain ⟨-, hf⟩ := m_chkE hf
      obtain ⟨A1, e1, hf⟩ := m_bndE hf
      obtain ⟨v2, e2, hf⟩ := m_bndE hf
      have t2 : v2.toInt = x10.toInt + 1 := ti_add e2 rfl (show (1 : Int32).toInt = 1 from rfl) (by omega) (by omega)
      have b0 := hcb (a + (i : Int))
      have tb : 0 ≤ t0.toInt ∧ t0.toInt ≤ 127 := by rw [ht]; unfold rmC; split <;> omega
      have nt : (vp_nar .char t0).toInt = t0.toInt := nar_ci rfl (by omega) (by omega)
      obtain ⟨m, hm⟩ : ∃ m : Nat, (m : Int) = (r.length : Int) + x9.toInt + (i : Int) := ⟨((r.length : Int) + x9.toInt + (i : Int)).toNat, by omega⟩
      have xn8 : v8.toNatClampNeg = 200 * k + m := cl_n (by omega)
      rw [xn8] at e1
      have o1 : ∀ j, j ≠ 15 → A1 j = A j := fun j hj => by rw [e1]; exact va_up_ne _ _ hj
      have s1 : A1 15 = upd (A 15) (200 * k + m) (vp_nar .char t0) := by rw [e1]; exact va_up_self _ _ _
      refine ih v2 A1 (i + 1) (by omega) (by omega) (rv_A hR (by rw [e1]; exact tk_u hA (show (0 : Int) ≤ (vp_nar .char t0).toInt by omega) (show (vp_nar .char t0).toInt ≤ (65535 : Int) by omega)) (o1 2 (by decide))) ⟨hF.1, fun j j1 j2 => (o1 j j2).trans (hF.2.1 j j1 j2), fun j hj => by rw [o1 14 (by decide)]; exact hF.2.2.1 j hj, fun j hj => by rw [s1, upd_ne (by omega)]; exact hF.2.2.2 j hj⟩ (fun j hj => ?_) hf
      rw [s1]
      by_cases e : j = m
      · rw [e, upd_self, nt, ht]
        unfold jnR
        have nn : n0.toNat ≠ 0 := by omega
        rw [if_neg nn]
        have pre : ((if r = [] then ([] : List Int) else r ++ [32]).length : Int) = (r.length : Int) + x9.toInt := by
          rw [h9]
          by_cases c : r = []
          · rw [if_pos c, if_pos (Or.inr c), c]; rfl
          · rw [if_neg c, if_neg (fun g => g.elim nn c), List.length_append]; rfl
        rw [wA_r (by omega), show (m : Int) - ((if r = [] then ([] : List Int) else r ++ [32]).length : Int) = (i : Int) by omega]
        exact (rmL_at (by omega)).symm
      · rw [upd_ne (by omega)]
        exact hw j (by omega)
    unfold f_readRemarks_247s at hf
    rcases m_ifE hf with ⟨c1, hf⟩ | ⟨c1, hf⟩
    · skip
      replace c1 := ti_leP (a := x6) (b := x10) c1 rfl rfl
      obtain ⟨v1, e_v1, hf⟩ := m_bndE hf
      have t_v1 : v1.toInt = x8.toInt + x9.toInt := ti_add e_v1 rfl rfl (by omega) (by omega)
      obtain ⟨v2, e_v2, hf⟩ := m_bndE hf
      have t_v2 : v2.toInt = v1.toInt + x6.toInt := ti_add e_v2 rfl rfl (by omega) (by omega)
      obtain ⟨-, hf⟩ := m_chkE hf
      obtain ⟨A3, e_A3, hf⟩ := m_bndE hf
      obtain ⟨g1, g2, g3⟩ := fin A3 v2 (by omega) e_A3 (by omega)
      rcases m_ifE hf with ⟨c2, hf⟩ | ⟨c2, hf⟩
      · skip
        replace c2 := ti_eqP (a := x4) (b := (0 : Int32)) c2 rfl (show (0 : Int32).toInt = 0 from rfl)
        obtain ⟨I2, d1, d2, d3, d4, d5⟩ := rm_344 (q := p) g1 h37 (by omega) hf
        have e0 : p + x4.toInt = p := by omega
        rw [e0]
        exact ⟨I2, A3, d1, ⟨d2, g2.2⟩, g3, d3, d4, d5⟩
      · skip
        replace c2 := ti_eqN (a := x4) (b := (0 : Int32)) c2 rfl (show (0 : Int32).toInt = 0 from rfl)
        obtain ⟨v4, e_v4, hf⟩ := m_bndE hf
        have t_v4 : v4.toInt = (I 37).toInt + 1 := ti_add e_v4 rfl (show (1 : Int32).toInt = 1 from rfl) (by omega) (by omega)
        obtain ⟨I2, d1, d2, d3, d4, d5⟩ := rm_344 (q := p + 1) g1 (by omega) (by omega) hf
        have e0 : p + x4.toInt = p + 1 := by omega
        rw [e0]
        exact ⟨I2, A3, d1, ⟨d2, g2.2⟩, g3, d3, d4, d5⟩
    · skip
      replace c1 := ti_leN (a := x6) (b := x10) c1 rfl rfl
      obtain ⟨v5, e_v5, hf⟩ := m_bndE hf
      have t_v5 : v5.toInt = 200 * x7.toInt := ti_mul e_v5 (show (200 : Int32).toInt = 200 from rfl) rfl (by omega) (by omega)
      obtain ⟨v6, e_v6, hf⟩ := m_bndE hf
      have t_v6 : v6.toInt = v5.toInt + x8.toInt := ti_add e_v6 rfl rfl (by omega) (by omega)
      obtain ⟨v7, e_v7, hf⟩ := m_bndE hf
      have t_v7 : v7.toInt = v6.toInt + x9.toInt := ti_add e_v7 rfl rfl (by omega) (by omega)
      obtain ⟨v8, e_v8, hf⟩ := m_bndE hf
      have t_v8 : v8.toInt = v7.toInt + x10.toInt := ti_add e_v8 rfl rfl (by omega) (by omega)
      obtain ⟨v9, e_v9, hf⟩ := m_bndE hf
      have t_v9 : v9.toInt = x5.toInt + x10.toInt := ti_add e_v9 rfl rfl (by omega) (by omega)
      obtain ⟨-, hf⟩ := m_chkE hf
      obtain ⟨v10, e_v10, hf⟩ := m_bndE hf
      have q10 := rv_tx hR e_v10 (by omega) (by omega)
      rw [show v9.toInt = a + (i : Int) by omega] at q10
      rcases m_ifE hf with ⟨c3, hf⟩ | ⟨c3, hf⟩
      · skip
        replace c3 := ti_eqP (a := v10) (b := (10 : Int32)) c3 rfl (show (10 : Int32).toInt = 10 from rfl)
        exact go 32 v8 (by unfold rmC; rw [if_pos (by omega)]; rfl) (by omega) (by omega) hf
      · skip
        replace c3 := ti_eqN (a := v10) (b := (10 : Int32)) c3 rfl (show (10 : Int32).toInt = 10 from rfl)
        obtain ⟨v11, e_v11, hf⟩ := m_bndE hf
        have t_v11 : v11.toInt = x5.toInt + x10.toInt := ti_add e_v11 rfl rfl (by omega) (by omega)
        obtain ⟨-, hf⟩ := m_chkE hf
        obtain ⟨v12, e_v12, hf⟩ := m_bndE hf
        have q12 := rv_tx hR e_v12 (by omega) (by omega)
        rw [show v11.toInt = a + (i : Int) by omega] at q12
        exact go v12 v8 (by unfold rmC; rw [if_neg (by omega)]; exact q12) (by omega) (by omega) hf
end RVS
