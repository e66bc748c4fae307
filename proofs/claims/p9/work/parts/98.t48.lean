/-- where a sign stands first, from a place on -/
def IX (ch : Int → Int) (N c a i : Int) : Prop := a ≤ i ∧ (∀ j, a ≤ j → j < i → ch j ≠ c) ∧ (N ≤ i ∨ ch i = c) ∧ (i ≤ a ∨ i ≤ N)
section IXS
variable {S : ZS} {x0 : Nat} {x1 x2 : Int32} {o : Int32 × ZS}
theorem ix_6 {a : Int} (hl : (zI S 1 x0).toInt ≤ 100000) : ∀ (n : Nat) (x3 : Int32), 0 ≤ a → a ≤ x3.toInt → (∀ j, a ≤ j → j < x3.toInt → rwC S x0 j ≠ x1.toInt) → (x3.toInt ≤ a ∨ x3.toInt ≤ (zI S 1 x0).toInt) → f_X6_indexOf_6 n x0 x1 x3 S = some o → o.2 = S ∧ IX (rwC S x0) (zI S 1 x0).toInt x1.toInt a o.1.toInt := by
  intro n
  induction n with
  | zero => intro x3 _ _ _ _ hf; cases hf
  | succ n ih =>
    intro x3 h0 ha hs hb hf
    have hf : f_X6_indexOf_6s (f_X6_indexOf_6 n) x0 x1 x3 S = some o := hf
    unfold f_X6_indexOf_6s at hf
    obtain ⟨-, hf⟩ := m_chkE hf
    rcases m_ifE hf with ⟨c1, hf⟩ | ⟨c1, hf⟩
    · skip
      replace c1 := ti_leP (a := (zI S 1 x0)) (b := x3) c1 rfl rfl
      unfold f_X6_indexOf_30 at hf
      cases hf
      try dsimp only
      exact ⟨rfl, ha, hs, Or.inl (by omega), hb⟩
    · skip
      replace c1 := ti_leN (a := (zI S 1 x0)) (b := x3) c1 rfl rfl
      obtain ⟨-, hf⟩ := m_chkE hf
      obtain ⟨b1, h_b1, hf⟩ := m_calE hf
      obtain ⟨-, hf⟩ := m_chkE hf
      obtain ⟨-, hf⟩ := m_chkE hf
      obtain ⟨v2, e_v2, hf⟩ := m_bndE hf
      have q2 := rw_at h_b1 e_v2 (by omega) (by omega)
      rcases m_ifE hf with ⟨c2, hf⟩ | ⟨c2, hf⟩
      · skip
        replace c2 := ti_eqP (a := v2) (b := x1) c2 rfl rfl
        unfold f_X6_indexOf_30 at hf
        cases hf
        try dsimp only
        exact ⟨rfl, ha, hs, Or.inr (by omega), hb⟩
      · skip
        replace c2 := ti_eqN (a := v2) (b := x1) c2 rfl rfl
        obtain ⟨v3, e_v3, hf⟩ := m_bndE hf
        have t_v3 : v3.toInt = x3.toInt + 1 := ti_add e_v3 rfl (show (1 : Int32).toInt = 1 from rfl) (by omega) (by omega)
        refine ih v3 h0 (by omega) (fun j j0 j1 => ?_) (by omega) hf
        by_cases e : j = x3.toInt
        · rw [e]; omega
        · exact hs j j0 (by omega)
theorem p_ixOf (hl : (zI S 1 x0).toInt ≤ 100000) (h2 : 0 ≤ x2.toInt) (hf : f_X6_indexOf x0 x1 x2 S = some o) : o.2 = S ∧ IX (rwC S x0) (zI S 1 x0).toInt x1.toInt x2.toInt o.1.toInt := by
  have hf : f_X6_indexOf_0 x0 x1 x2 S = some o := hf
  unfold f_X6_indexOf_0 at hf
  obtain ⟨v1, e1, hf⟩ := m_bndE hf
  have e2 : v1 = x2 := by
    rw [e1, if_neg (fun h => by have := Int32.lt_iff_toInt_lt.1 h; have z : (0 : Int32).toInt = 0 := rfl; omega)]
  rw [e2] at hf
  exact ix_6 hl mFuel x2 h2 (Int.le_refl _) (fun j j0 j1 => by omega) (Or.inl (Int.le_refl _)) hf
end IXS
/-- a remark that begins at p ends at q -/
def RM1 (ch : Int → Int) (N p q : Int) : Prop := (ch p = 123 ∧ p + 1 ≤ q ∧ q < N ∧ ch q = 125 ∧ ∀ j, p + 1 ≤ j → j < q → ch j ≠ 125) ∨ (ch p = 59 ∧ p + 1 ≤ q ∧ q ≤ N ∧ (q = N ∨ ch q = 10) ∧ ∀ j, p + 1 ≤ j → j < q → ch j ≠ 10 ∧ ch j ≠ 125)
theorem rm1_u {ch : Int → Int} {N p q r : Int} (h : RM1 ch N p q) (g : RM1 ch N p r) : q = r := by
  rcases h with ⟨h1, h2, h3, h4, h5⟩ | ⟨h1, h2, h3, h4, h5⟩ <;> rcases g with ⟨g1, g2, g3, g4, g5⟩ | ⟨g1, g2, g3, g4, g5⟩
  · rcases Int.lt_trichotomy q r with l | l | l
    · exact absurd h4 (g5 q h2 l)
    · exact l
    · exact absurd g4 (h5 r g2 l)
  · omega
  · omega
  · rcases Int.lt_trichotomy q r with l | l | l
    · have := g5 q h2 l; omega
    · exact l
    · have := h5 r g2 l; omega
noncomputable def rm1 (ch : Int → Int) (N p : Int) : Option Int := @dite _ (∃ q, RM1 ch N p q) (Classical.propDecidable _) (fun h => some (Classical.choose h)) (fun _ => none)
theorem rm1_y {ch : Int → Int} {N p q : Int} (h : RM1 ch N p q) : rm1 ch N p = some q := by
  have h2 : ∃ q, RM1 ch N p q := ⟨q, h⟩
  unfold rm1
  rw [dif_pos h2, rm1_u (Classical.choose_spec h2) h]
theorem rm1_n {ch : Int → Int} {N p : Int} (h : ∀ q, ¬ RM1 ch N p q) : rm1 ch N p = none := dif_neg (fun ⟨q, g⟩ => h q g)
def rmC (c : Int) : Int := if c = 10 then 32 else c
/-- the signs of a remark -/
def rmL (ch : Int → Int) (a : Int) : Nat → List Int
  | 0 => []
  | k + 1 => rmL ch a k ++ [rmC (ch (a + (k : Int)))]
theorem rmL_l {ch : Int → Int} {a : Int} : ∀ k, (rmL ch a k).length = k
  | 0 => rfl
  | k + 1 => by
    show (rmL ch a k ++ [rmC (ch (a + (k : Int)))]).length = k + 1
    rw [List.length_append, rmL_l k]
    rfl
/-- a remark joined to what is there -/
def jnR (r : List Int) (ch : Int → Int) (a : Int) (k : Nat) : List Int := if k = 0 then r else (if r = [] then [] else r ++ [32]) ++ rmL ch a k
theorem jnR_l {r : List Int} {ch : Int → Int} {a : Int} {k : Nat} : ((jnR r ch a k).length : Int) = (r.length : Int) + (k : Int) + (if k = 0 ∨ r = [] then 0 else 1) := by
  unfold jnR
  by_cases h : k = 0
  · rw [if_pos h, if_pos (Or.inl h), h]; omega
  · rw [if_neg h, List.length_append, rmL_l]
    by_cases g : r = []
    · rw [if_pos g, if_pos (Or.inr g), g]; simp
    · rw [if_neg g, if_neg (fun e => e.elim h g), List.length_append]
      have : ([32] : List Int).length = 1 := rfl
      omega
/-- remarks from p on (behind blanks) -/
noncomputable def rmkP (ch : Int → Int) (N : Int) : Nat → Int → List Int → Option (Int × List Int)
  | 0, _, _ => none
  | k + 1, p, r => if ch p = 123 ∨ ch p = 59 then (match rm1 ch N p with
    | none => none
    | some q => if ((jnR r ch (p + 1) (q - (p + 1)).toNat).length : Int) ≤ 200 then rmkP ch N k (blk ch (if ch p = 123 then q + 1 else q)) (jnR r ch (p + 1) (q - (p + 1)).toNat) else none) else some (p, r)
section RKS
variable {ch : Int → Int} {N p q : Int} {k : Nat} {r : List Int}
theorem rkP_0 (h : ¬ (ch p = 123 ∨ ch p = 59)) : rmkP ch N (k + 1) p r = some (p, r) := if_neg h
theorem rkP_n (h : ch p = 123 ∨ ch p = 59) (g : ∀ q, ¬ RM1 ch N p q) : rmkP ch N (k + 1) p r = none := by
  show (if _ then (match rm1 ch N p with | none => none | some q => _) else _) = _
  rw [if_pos h, rm1_n g]
theorem rm1_c (h : RM1 ch N p q) : ch p = 123 ∨ ch p = 59 := h.elim (fun h => Or.inl h.1) (fun h => Or.inr h.1)
theorem rkP_l (h : RM1 ch N p q) (g : 200 < ((jnR r ch (p + 1) (q - (p + 1)).toNat).length : Int)) : rmkP ch N (k + 1) p r = none := by
  show (if _ then (match rm1 ch N p with | none => none | some q => _) else _) = _
  rw [if_pos (rm1_c h), rm1_y h]
  exact if_neg (by omega)
theorem rkP_s (h : RM1 ch N p q) (g : ((jnR r ch (p + 1) (q - (p + 1)).toNat).length : Int) ≤ 200) : rmkP ch N (k + 1) p r = rmkP ch N k (blk ch (if ch p = 123 then q + 1 else q)) (jnR r ch (p + 1) (q - (p + 1)).toNat) := by
  show (if _ then (match rm1 ch N p with | none => none | some q => _) else _) = _
  rw [if_pos (rm1_c h), rm1_y h]
  exact if_pos g
end RKS
/-- a node with its remark -/
def NDo (S : ZS) (x : Nat) (r : List Int) : Prop := (zK S x = 4 ∧ zP S 6 x = some (x + 1) ∧ zK S (x + 1) = 6 ∧ rc (x + 1) = 0) ∧ RWL S (x + 1) r
section JRS
variable {S0 S S' : ZS} {x0 : Nat} {ch : Int → Int} {N a : Int} {u r : List Int} {o : Int32 × ZS} {x2 x3 : Int32}
theorem ndo_fr {W : Nat → Prop} (h : NDo S x0 r) (hF : FR W S S') (hr : RWL S' (x0 + 1) u) : NDo S' x0 u := by
  obtain ⟨⟨k4, p6, k6, hrc⟩, -⟩ := h
  have e := (hF x0 (by rw [k4]; decide)).1
  exact ⟨⟨e.1.trans k4, (e.2.2.1 (by rw [k4]; decide) 6).trans p6, (fr_k hF (by rw [k6]; decide)).trans k6, hrc⟩, hr⟩
theorem rcz_2 {b : Nat} (h : rc b = 0) : b ≠ 2 := fun e => by rw [e] at h; exact absurd h (by decide)
/-- a sign more in a node's remark -/
theorem jr_put {c y : Int32} (hT : ZT S) (h : NDo S x0 u) (hl : (u.length : Int) < 200) (hc : 0 ≤ c.toInt ∧ c.toInt ≤ 65535) (hf : d_X6_put (x0 + 1) c S = some (y, S')) : ZT S' ∧ NDo S' x0 (u ++ [c.toInt]) ∧ FR (fun a => a = x0 + 1) S S' := by
  obtain ⟨⟨k4, p6, k6, hrc⟩, hu⟩ := id h
  have rl : rL (x0 + 1) = 200 := by
    unfold rL
    rw [hrc, if_neg (by decide), if_neg (by decide)]
  have T1 : ZT S' := (ok_of (t_d_X6_put (SZ := S) hT (rp_0 S) k6 hc (by rw [rl, hu.1]; exact hl) (by rw [hrc]; decide)) hf).1
  obtain ⟨g1, g2⟩ := p_rput hT k6 hu (by omega) hc hf
  exact ⟨T1, ndo_fr h (fr_r g2 k6) g1, fr_r g2 k6⟩
theorem jr_64 (hcb : ∀ i, 0 ≤ ch i ∧ ch i ≤ 127) (ha : 0 ≤ a) (h3 : a ≤ x3.toInt ∧ x3.toInt ≤ 3000) (hl : (u.length : Int) + (x3.toInt - a) ≤ 200) (hch : rwC S0 2 = ch) (k2 : zK S0 2 = 6) : ∀ (n : Nat) (x5 : Int32) (S : ZS) (k : Nat), x5.toInt = a + (k : Int) → a + (k : Int) ≤ x3.toInt → ZT S → FR (fun a => a = x0 + 1) S0 S → NDo S x0 (u ++ rmL ch a k) → d_X4_joinRemark_64 n x0 2 x3 x5 S = some o → o.1.toInt = 1 ∧ ZT o.2 ∧ FR (fun a => a = x0 + 1) S0 o.2 ∧ NDo o.2 x0 (u ++ rmL ch a (x3.toInt - a).toNat) := by
  intro n
  induction n with
  | zero => intro x5 S k _ _ _ _ _ hf; cases hf
  | succ n ih =>
    intro x5 S k hx hk hT hF hN hf
    have hf : d_X4_joinRemark_64s (d_X4_joinRemark_64 n) x0 2 x3 x5 S = some o := hf
    obtain ⟨⟨k4, p6, k6, hrc⟩, hu⟩ := id hN
    have n2 := rcz_2 hrc
    have e2 := fr_e hF (by rw [k2]; decide) (fun e => n2 e.symm)
    have hc : rwC S 2 = ch := by rw [eqc_rw e2 k2]; exact hch
    have b0 := hcb (a + (k : Int))
    have ll : ((u ++ rmL ch a k).length : Int) = (u.length : Int) + (k : Int) := by rw [List.length_append, rmL_l]; omega
    have more : ∀ (c : Int32) (S1 : ZS), S1 = S → c.toInt = rmC (ch (a + (k : Int))) → x5.toInt < x3.toInt → d_X4_joinRemark_96 (d_X4_joinRemark_64 n) x0 2 x3 x5 c (x0 + 1) S1 = some o → o.1.toInt = 1 ∧ ZT o.2 ∧ FR (fun a => a = x0 + 1) S0 o.2 ∧ NDo o.2 x0 (u ++ rmL ch a (x3.toInt - a).toNat) := by
      intro c S1 e1 hcc hlt hf
      rw [e1] at hf
      unfold d_X4_joinRemark_96 at hf
      obtain ⟨-, hf⟩ := m_chkE hf
      obtain ⟨⟨r2, S3⟩, h_r2, hf⟩ := m_cal2E hf
      dsimp only at hf
      obtain ⟨v6, e6, hf⟩ := m_bndE hf
      have t6 : v6.toInt = x5.toInt + 1 := ti_add e6 rfl (show (1 : Int32).toInt = 1 from rfl) (by omega) (by omega)
      have cb : 0 ≤ c.toInt ∧ c.toInt ≤ 65535 := by
        rw [hcc]; unfold rmC
        split <;> omega
      obtain ⟨T3, N3, F3⟩ := jr_put hT hN (by omega) cb h_r2
      rw [hcc, List.append_assoc] at N3
      exact ih v6 S3 (k + 1) (by omega) (by omega) T3 (fr_t hF F3) N3 hf
    unfold d_X4_joinRemark_64s at hf
    rcases m_ifE hf with ⟨c1, hf⟩ | ⟨c1, hf⟩
    · skip
      replace c1 := ti_leP (a := x3) (b := x5) c1 rfl rfl
      obtain ⟨-, hf⟩ := m_chkE hf
      cases hf
      try dsimp only
      have ek : (x3.toInt - a).toNat = k := by omega
      rw [ek]
      exact ⟨rfl, hT, hF, hN⟩
    · skip
      replace c1 := ti_leN (a := x3) (b := x5) c1 rfl rfl
      obtain ⟨-, hf⟩ := m_chkE hf
      replace hf := m_calY hf p6
      obtain ⟨-, hf⟩ := m_chkE hf
      obtain ⟨r2, h_r2, hf⟩ := m_calR hf (fun _ h => ro_X6_at h)
      dsimp only at hf
      have p_r2 := pc_X6_at h_r2
      dsimp only at p_r2
      rw [hc, hx] at p_r2
      obtain ⟨-, hf⟩ := m_chkE hf
      rcases m_ifE hf with ⟨c2, hf⟩ | ⟨c2, hf⟩
      · skip
        replace c2 := ti_eqP (a := r2) (b := (10 : Int32)) c2 rfl (show (10 : Int32).toInt = 10 from rfl)
        exact more 32 S rfl (by unfold rmC; rw [if_pos (by omega)]; rfl) (by omega) hf
      · skip
        replace c2 := ti_eqN (a := r2) (b := (10 : Int32)) c2 rfl (show (10 : Int32).toInt = 10 from rfl)
        obtain ⟨-, hf⟩ := m_chkE hf
        obtain ⟨r3, h_r3, hf⟩ := m_calR hf (fun _ h => ro_X6_at h)
        dsimp only at hf
        have p_r3 := pc_X6_at h_r3
        dsimp only at p_r3
        rw [hc, hx] at p_r3
        obtain ⟨-, hf⟩ := m_chkE hf
        exact more r3 S rfl (by unfold rmC; rw [if_neg (by omega)]; exact p_r3) (by omega) hf
theorem jr_22 {t0 : Int32} (hcb : ∀ i, 0 ≤ ch i ∧ ch i ≤ 127) (hT : ZT S) (hN : NDo S x0 r) (hch : rwC S 2 = ch) (k2 : zK S 2 = 6) (h2 : 0 ≤ x2.toInt) (h3 : x2.toInt < x3.toInt ∧ x3.toInt ≤ 3000) (ht : t0.toInt = if r = [] then 0 else 1) (hr : (r.length : Int) ≤ 200) (hf : d_X4_joinRemark_22 x0 2 x2 x3 t0 S = some o) : (o.1.toInt = 1 ∧ ((jnR r ch x2.toInt (x3.toInt - x2.toInt).toNat).length : Int) ≤ 200 ∧ ZT o.2 ∧ FR (fun a => a = x0 + 1) S o.2 ∧ NDo o.2 x0 (jnR r ch x2.toInt (x3.toInt - x2.toInt).toNat)) ∨ (o.1.toInt = 0 ∧ o.2 = S ∧ 200 < ((jnR r ch x2.toInt (x3.toInt - x2.toInt).toNat).length : Int)) := by
  obtain ⟨⟨k4, p6, k6, hrc⟩, hu⟩ := id hN
  have n2 := rcz_2 hrc
  have l1 := hu.1
  have kn : (x3.toInt - x2.toInt).toNat ≠ 0 := by omega
  have jl := jnR_l (r := r) (ch := ch) (a := x2.toInt) (k := (x3.toInt - x2.toInt).toNat)
  have el : ((jnR r ch x2.toInt (x3.toInt - x2.toInt).toNat).length : Int) = (r.length : Int) + (x3.toInt - x2.toInt) + t0.toInt := by
    rw [jl, ht]
    by_cases g : r = []
    · rw [if_pos (Or.inr g), if_pos g]; omega
    · rw [if_neg (fun e => e.elim kn g), if_neg g]; omega
  have tb : t0.toInt = 0 ∨ t0.toInt = 1 := by rw [ht]; split <;> omega
  unfold d_X4_joinRemark_22 at hf
  obtain ⟨-, hf⟩ := m_chkE hf
  replace hf := m_calY hf p6
  obtain ⟨-, hf⟩ := m_chkE hf
  obtain ⟨r2, h_r2, hf⟩ := m_calR hf (fun _ h => ro_X6_size h)
  dsimp only at hf
  have p_r2 := pc_X6_size h_r2
  dsimp only at p_r2
  have q2 : r2.toInt = (r.length : Int) := by rw [p_r2]; exact l1
  obtain ⟨-, hf⟩ := m_chkE hf
  obtain ⟨v3, e_v3, hf⟩ := m_bndE hf
  have t_v3 : v3.toInt = r2.toInt + t0.toInt := ti_add e_v3 rfl rfl (by omega) (by omega)
  obtain ⟨v4, e_v4, hf⟩ := m_bndE hf
  have t_v4 : v4.toInt = v3.toInt + x3.toInt := ti_add e_v4 rfl rfl (by omega) (by omega)
  obtain ⟨v5, e_v5, hf⟩ := m_bndE hf
  have t_v5 : v5.toInt = v4.toInt - x2.toInt := ti_sub e_v5 rfl rfl (by omega) (by omega)
  rcases m_ifE hf with ⟨c1, hf⟩ | ⟨c1, hf⟩
  · skip
    replace c1 := ti_leP (a := v5) (b := (200 : Int32)) c1 rfl (show (200 : Int32).toInt = 200 from rfl)
    rcases m_ifE hf with ⟨c2, hf⟩ | ⟨c2, hf⟩
    · skip
      replace c2 := ti_eqP (a := t0) (b := (1 : Int32)) c2 rfl (show (1 : Int32).toInt = 1 from rfl)
      obtain ⟨-, hf⟩ := m_chkE hf
      replace hf := m_calY hf p6
      obtain ⟨-, hf⟩ := m_chkE hf
      obtain ⟨⟨r8, S9⟩, h_r8, hf⟩ := m_cal2E hf
      dsimp only at hf
      have rn : r ≠ [] := fun e => by rw [if_pos e] at ht; omega
      obtain ⟨T9, N9, F9⟩ := jr_put (c := 32) hT hN (by omega) (by decide) h_r8
      have e32 : (32 : Int32).toInt = 32 := rfl
      rw [e32] at N9
      have k29 := fr_e F9 (show zK S 2 < 18 by rw [k2]; decide) (fun e => n2 e.symm)
      have al : ((r ++ [32]).length : Int) = (r.length : Int) + 1 := by rw [List.length_append]; rfl
      obtain ⟨a1, a2, a3, a4⟩ := jr_64 (S0 := S9) (u := r ++ [32]) (a := x2.toInt) hcb h2 (by omega) (by omega) (by rw [eqc_rw k29 k2]; exact hch) (k29.1.trans k2) mFuel x2 S9 0 (by omega) (by omega) T9 fr_0 (by show NDo S9 x0 ((r ++ [32]) ++ []); rw [List.append_nil]; exact N9) hf
      refine Or.inl ⟨a1, by omega, a2, fr_t F9 a3, ?_⟩
      unfold jnR
      rw [if_neg kn, if_neg rn]
      exact a4
    · skip
      replace c2 := ti_eqN (a := t0) (b := (1 : Int32)) c2 rfl (show (1 : Int32).toInt = 1 from rfl)
      have rn : r = [] := Classical.byContradiction (fun e => by rw [if_neg e] at ht; omega)
      obtain ⟨a1, a2, a3, a4⟩ := jr_64 (S0 := S) (u := []) (a := x2.toInt) hcb h2 (by omega) (by show (0 : Int) + _ ≤ 200; omega) hch k2 mFuel x2 S 0 (by omega) (by omega) hT fr_0 (by show NDo S x0 []; rw [← rn]; exact hN) hf
      refine Or.inl ⟨a1, by omega, a2, a3, ?_⟩
      unfold jnR
      rw [if_neg kn, if_pos rn]
      exact a4
  · skip
    replace c1 := ti_leN (a := v5) (b := (200 : Int32)) c1 rfl (show (200 : Int32).toInt = 200 from rfl)
    obtain ⟨-, hf⟩ := m_chkE hf
    cases hf
    try dsimp only
    exact Or.inr ⟨rfl, rfl, by omega⟩
/-- a remark joined by the class -/
theorem p_join (hcb : ∀ i, 0 ≤ ch i ∧ ch i ≤ 127) (hT : ZT S) (hN : NDo S x0 r) (hch : rwC S 2 = ch) (k2 : zK S 2 = 6) (h2 : 0 ≤ x2.toInt) (h3 : x2.toInt ≤ x3.toInt ∧ x3.toInt ≤ 3000) (hr : (r.length : Int) ≤ 200) (hf : d_X4_joinRemark x0 2 x2 x3 S = some o) : (o.1.toInt = 1 ∧ ((jnR r ch x2.toInt (x3.toInt - x2.toInt).toNat).length : Int) ≤ 200 ∧ ZT o.2 ∧ FR (fun a => a = x0 + 1) S o.2 ∧ NDo o.2 x0 (jnR r ch x2.toInt (x3.toInt - x2.toInt).toNat)) ∨ (o.1.toInt = 0 ∧ o.2 = S ∧ 200 < ((jnR r ch x2.toInt (x3.toInt - x2.toInt).toNat).length : Int)) := by
  have hf : d_X4_joinRemark_0 x0 2 x2 x3 S = some o := hf
  obtain ⟨⟨k4, p6, k6, hrc⟩, hu⟩ := id hN
  have l1 := hu.1
  have z0 : (0 : Int32).toInt = 0 := rfl
  have z1 : (1 : Int32).toInt = 1 := rfl
  unfold d_X4_joinRemark_0 at hf
  rcases m_ifE hf with ⟨c1, hf⟩ | ⟨c1, hf⟩
  · skip
    replace c1 := ti_ltP (a := x2) (b := x3) c1 rfl rfl
    obtain ⟨-, hf⟩ := m_chkE hf
    replace hf := m_calY hf p6
    obtain ⟨-, hf⟩ := m_chkE hf
    obtain ⟨r2, h_r2, hf⟩ := m_calR hf (fun _ h => ro_X6_size h)
    dsimp only at hf
    have p_r2 := pc_X6_size h_r2
    dsimp only at p_r2
    have q2 : r2.toInt = (r.length : Int) := by rw [p_r2]; exact l1
    obtain ⟨-, hf⟩ := m_chkE hf
    rcases m_ifE hf with ⟨c2, hf⟩ | ⟨c2, hf⟩
    · skip
      replace c2 := ti_leP (a := r2) (b := (0 : Int32)) c2 rfl (show (0 : Int32).toInt = 0 from rfl)
      have rn : r = [] := List.eq_nil_of_length_eq_zero (by omega)
      exact jr_22 hcb hT hN hch k2 h2 (by omega) (by rw [if_pos rn]; rfl) hr hf
    · skip
      replace c2 := ti_leN (a := r2) (b := (0 : Int32)) c2 rfl (show (0 : Int32).toInt = 0 from rfl)
      have rn : r ≠ [] := fun e => by
        rw [e] at q2
        have : (([] : List Int).length : Int) = 0 := rfl
        omega
      exact jr_22 hcb hT hN hch k2 h2 (by omega) (by rw [if_neg rn]; rfl) hr hf
  · skip
    replace c1 := ti_ltN (a := x2) (b := x3) c1 rfl rfl
    obtain ⟨-, hf⟩ := m_chkE hf
    cases hf
    try dsimp only
    have e0 : (x3.toInt - x2.toInt).toNat = 0 := by omega
    refine Or.inl ⟨rfl, ?_, hT, fr_0, ?_⟩
    · rw [e0]; unfold jnR; rw [if_pos rfl]; exact hr
    · rw [e0]; unfold jnR; rw [if_pos rfl]; exact hN
end JRS
section RKC
variable {S0 S S' : ZS} {x1 : Nat} {ch : Int → Int} {N p q : Int} {r : List Int} {o : Int32 × ZS} {x2 x3 x4 x5 : Int32}
/-- one remark, behind the look for its end -/
theorem rr_91 (h : LW S ch N p) (hN : NDo S x1 r) (hr : (r.length : Int) ≤ 200) (h2 : x2.toInt = p) (h5 : x5.toInt = q) (hpN : p < N) (hq : RM1 ch N p q) (hf : d_X2_readRemark_91 23 x1 x2 x5 S = some o) : (o.1.toInt = 1 ∧ ((jnR r ch (p + 1) (q - (p + 1)).toNat).length : Int) ≤ 200 ∧ LW o.2 ch N (if N < q + 1 then N else q + 1) ∧ FR (fun a => a = 23 ∨ a = x1 + 1) S o.2 ∧ NDo o.2 x1 (jnR r ch (p + 1) (q - (p + 1)).toNat)) ∨ (o.1.toInt = 0 ∧ 200 < ((jnR r ch (p + 1) (q - (p + 1)).toNat).length : Int) ∧ (∃ p', LW o.2 ch N p') ∧ FR (fun a => a = 23 ∨ a = x1 + 1) S o.2) := by
  obtain ⟨hT, ⟨k23, p2, k2⟩, ⟨hc, hN1, hn⟩, hcb, h4, hp⟩ := id h
  have hqp : p + 1 ≤ q ∧ q ≤ N := by rcases hq with g | g <;> omega
  have k6 := hN.1.2.2.1
  have hrc := hN.1.2.2.2
  have n2 := rcz_2 hrc
  have n23 : (23 : Nat) ≠ x1 + 1 := fun e => by rw [← e, k23] at k6; exact absurd k6 (by decide)
  unfold d_X2_readRemark_91 at hf
  obtain ⟨-, hf⟩ := m_chkE hf
  replace hf := m_calY hf p2
  obtain ⟨v2, e_v2, hf⟩ := m_bndE hf
  have t_v2 : v2.toInt = x2.toInt + 1 := ti_add e_v2 rfl (show (1 : Int32).toInt = 1 from rfl) (by omega) (by omega)
  obtain ⟨-, hf⟩ := m_chkE hf
  obtain ⟨⟨r4, S5⟩, h_r4, hf⟩ := m_cal2E hf
  dsimp only at hf
  have g4 := p_join (x2 := v2) (x3 := x5) hcb hT hN hc k2 (by omega) (by omega) hr h_r4
  rw [show v2.toInt = p + 1 by omega, h5] at g4
  dsimp only at g4
  rcases m_ifE hf with ⟨c1, hf⟩ | ⟨c1, hf⟩
  · skip
    replace c1 := ti_eqP (a := r4) (b := (0 : Int32)) c1 rfl (show (0 : Int32).toInt = 0 from rfl)
    obtain ⟨e5, g5⟩ : S5 = S ∧ 200 < ((jnR r ch (p + 1) (q - (p + 1)).toNat).length : Int) := by
      rcases g4 with ⟨a, -⟩ | ⟨-, a, b⟩
      · omega
      · exact ⟨a, b⟩
    rw [e5] at hf
    obtain ⟨-, hf⟩ := m_chkE hf
    obtain ⟨⟨r13, S13c⟩, h_r13, hf⟩ := m_calE hf
    dsimp only at hf
    obtain ⟨b1, b2, b3⟩ := lw_no (x1 := 8) (x2 := x2) h (by decide) (by omega) h_r13
    dsimp only at b1 b2 b3
    obtain ⟨-, hf⟩ := m_chkE hf
    obtain ⟨-, hf⟩ := m_chkE hf
    cases hf
    try dsimp only
    exact Or.inr ⟨b1, g5, ⟨p, b2⟩, fr_m b3 (fun a _ e => Or.inl e)⟩
  · skip
    replace c1 := ti_eqN (a := r4) (b := (0 : Int32)) c1 rfl (show (0 : Int32).toInt = 0 from rfl)
    obtain ⟨g51, T5, F5, N5⟩ : ((jnR r ch (p + 1) (q - (p + 1)).toNat).length : Int) ≤ 200 ∧ ZT S5 ∧ FR (fun a => a = x1 + 1) S S5 ∧ NDo S5 x1 (jnR r ch (p + 1) (q - (p + 1)).toNat) := by
      rcases g4 with ⟨-, a⟩ | ⟨a, -⟩
      · exact a
      · omega
    have e23 := fr_e F5 (show zK S 23 < 18 by rw [k23]; decide) n23
    have L5 : LW S5 ch N p := lw_fr h T5 F5 (fun e => n2 e.symm) (by rw [e23.2.2.1]; exact h4) hp
    obtain ⟨-, ⟨-, p25, k25⟩, ⟨-, hN5, -⟩, -⟩ := id L5
    obtain ⟨v8, e_v8, hf⟩ := m_bndE hf
    have t_v8 : v8.toInt = x5.toInt + 1 := ti_add e_v8 rfl (show (1 : Int32).toInt = 1 from rfl) (by omega) (by omega)
    obtain ⟨-, hf⟩ := m_chkE hf
    replace hf := m_calY hf p25
    obtain ⟨-, hf⟩ := m_chkE hf
    obtain ⟨r10, h_r10, hf⟩ := m_calR hf (fun _ h => ro_X6_size h)
    dsimp only at hf
    have p_r10 := pc_X6_size h_r10
    dsimp only at p_r10
    have q10 : r10.toInt = N := by rw [p_r10]; exact hN5
    obtain ⟨-, hf⟩ := m_chkE hf
    obtain ⟨v11, e_v11, hf⟩ := m_bndE hf
    have t11 : v11.toInt = if N < q + 1 then N else q + 1 := by
      rw [e_v11]
      by_cases c : N < q + 1
      · rw [if_pos (Int32.lt_iff_toInt_lt.2 (by omega)), if_pos c]; exact q10
      · rw [if_neg (fun g => by have := Int32.lt_iff_toInt_lt.1 g; omega), if_neg c]; omega
    obtain ⟨-, hf⟩ := m_chkE hf
    obtain ⟨S12, e_S12, hf⟩ := m_bndE hf
    obtain ⟨-, hf⟩ := m_chkE hf
    cases hf
    try dsimp only
    have L12 : LW S12 ch N (if N < q + 1 then N else q + 1) := lw_at L5 e_S12 t11 (by split <;> omega)
    have F12 : FR (fun a => a = 23 ∨ a = x1 + 1) S5 S12 := fr_m (fr_I e_S12) (fun a _ e => Or.inl e)
    refine Or.inl ⟨rfl, g51, L12, fr_t (fr_m F5 (fun a _ e => Or.inr e)) F12, ndo_fr N5 F12 (eqc_rl (fr_e (fr_I e_S12) (by rw [N5.1.2.2.1]; decide) (fun e => n23 e.symm)) N5.1.2.2.1 N5.2)⟩
end RKC
