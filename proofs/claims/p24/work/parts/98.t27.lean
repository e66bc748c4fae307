section
/-- the man of a letter -/
noncomputable def manV (c : Int) : Int := if c = 80 then 1 else if c = 78 then 2 else if c = 66 then 3 else if c = 82 then 4 else if c = 81 then 5 else if c = 75 then 6 else if c = 112 then 9 else if c = 110 then 10 else if c = 98 then 11 else if c = 114 then 12 else if c = 113 then 13 else if c = 107 then 14 else 0
theorem manV_b (c : Int) : 0 ≤ manV c ∧ manV c ≤ 14 ∧ manV c ≠ 7 ∧ manV c ≠ 8 := by
  unfold manV
  omega
theorem manV_L {c : Int} (h : manV c ≠ 0) : isL c := by
  unfold manV at h
  unfold isL
  omega
/-- one rank of a position's text -/
noncomputable def rkV (V : Int → Int) (base : Int) : Nat → Int → Int → Int → (Int → Int) → Option (Int × (Int → Int))
  | 0, _, _, _, _ => none
  | k + 1, p, f, dg, m => if 8 ≤ f then (if f = 8 then some (p, m) else none) else if 49 ≤ V p ∧ V p ≤ 56 then (if dg = 0 then rkV V base k (p + 1) (f + (V p - 48)) 1 m else none) else if manV (V p) = 0 then none else rkV V base k (p + 1) (f + 1) 0 (up m (base + f) (manV (V p)))
section RKV
variable {V : Int → Int} {base p f dg : Int} {m : Int → Int} {k : Nat}
theorem rk_end (h : f = 8) : rkV V base (k + 1) p f dg m = some (p, m) := by
  show (if 8 ≤ f then (if f = 8 then some (p, m) else none) else _) = _
  rw [if_pos (by omega), if_pos h]
theorem rk_over (h : 8 < f) : rkV V base (k + 1) p f dg m = none := by
  show (if 8 ≤ f then (if f = 8 then some (p, m) else none) else _) = _
  rw [if_pos (by omega), if_neg (by omega)]
theorem rk_dg (h : f < 8) (hd : 49 ≤ V p ∧ V p ≤ 56) (h0 : dg = 0) : rkV V base (k + 1) p f dg m = rkV V base k (p + 1) (f + (V p - 48)) 1 m := by
  show (if 8 ≤ f then _ else if 49 ≤ V p ∧ V p ≤ 56 then (if dg = 0 then rkV V base k (p + 1) (f + (V p - 48)) 1 m else none) else _) = _
  rw [if_neg (by omega), if_pos hd, if_pos h0]
theorem rk_dd (h : f < 8) (hd : 49 ≤ V p ∧ V p ≤ 56) (h0 : dg ≠ 0) : rkV V base (k + 1) p f dg m = none := by
  show (if 8 ≤ f then _ else if 49 ≤ V p ∧ V p ≤ 56 then (if dg = 0 then rkV V base k (p + 1) (f + (V p - 48)) 1 m else none) else _) = _
  rw [if_neg (by omega), if_pos hd, if_neg h0]
theorem rk_no (h : f < 8) (hd : ¬ (49 ≤ V p ∧ V p ≤ 56)) (h0 : manV (V p) = 0) : rkV V base (k + 1) p f dg m = none := by
  show (if 8 ≤ f then _ else if 49 ≤ V p ∧ V p ≤ 56 then _ else if manV (V p) = 0 then none else _) = _
  rw [if_neg (by omega), if_neg hd, if_pos h0]
theorem rk_man (h : f < 8) (hd : ¬ (49 ≤ V p ∧ V p ≤ 56)) (h0 : manV (V p) ≠ 0) : rkV V base (k + 1) p f dg m = rkV V base k (p + 1) (f + 1) 0 (up m (base + f) (manV (V p))) := by
  show (if 8 ≤ f then _ else if 49 ≤ V p ∧ V p ≤ 56 then _ else if manV (V p) = 0 then none else rkV V base k (p + 1) (f + 1) 0 (up m (base + f) (manV (V p)))) = _
  rw [if_neg (by omega), if_neg hd, if_neg h0]
end RKV
/-- where a king is held, if there is one -/
noncomputable def KI (m : Int → Int) (k w : Int) : Prop := ∀ s, 0 ≤ s → s < 64 → m s = 6 + 8 * w → 0 ≤ k ∧ k < 64 ∧ m k = 6 + 8 * w
/-- what is not yet read is empty -/
noncomputable def Zr (m : Int → Int) (r f : Int) : Prop := ∀ s, 0 ≤ s → (s / 8 < r ∨ (s / 8 = r ∧ f ≤ s % 8)) → m s = 0
/-- only the board bb and the reader x0 change -/
noncomputable def PFr (S S' : ZS) (x0 bb : Nat) : Prop := EqT S S' ∧ zP S' = zP S ∧ (∀ j a, a ≠ x0 → a ≠ bb → zI S' j a = zI S j a) ∧ (∀ a, a ≠ bb + 1 → zA S' a = zA S a) ∧ zc S' = zc S
section PFS
variable {S S1 S2 S' : ZS} {x0 bb : Nat}
theorem pfr_0 : PFr S S x0 bb := ⟨eqt_0, rfl, fun _ _ _ _ => rfl, fun _ _ => rfl, rfl⟩
theorem pfr_t (h : PFr S S1 x0 bb) (g : PFr S1 S2 x0 bb) : PFr S S2 x0 bb := ⟨eqt_t h.1 g.1, g.2.1.trans h.2.1, fun j a ha hb => (g.2.2.1 j a ha hb).trans (h.2.2.1 j a ha hb), fun a ha => (g.2.2.2.1 a ha).trans (h.2.2.2.1 a ha), g.2.2.2.2.trans h.2.2.2.2⟩
theorem pfr_b (h : SB S S' bb) : PFr S S' x0 bb := ⟨h.1, h.2.1, fun j a _ hb => h.2.2.1 j a hb, h.2.2.2.1, h.2.2.2.2⟩
theorem pfr_I {j : Nat} {v : Int32} (e : S' = zsI S j x0 v) : PFr S S' x0 bb := by
  subst e
  exact ⟨⟨rfl, rfl, rfl, rfl, rfl⟩, rfl, fun i a ha _ => zI_b ha, fun _ _ => rfl, rfl⟩
end PFS
/-- a reader of positions, its value and its board -/
noncomputable def PJ (S0 S : ZS) (x0 vr bb : Nat) (V : Int → Int) (p : Int) (m : Int → Int) : Prop := PFr S0 S x0 bb ∧ (zK S0 x0 = 5 ∧ zP S0 0 x0 = some vr ∧ zK S0 vr = 6) ∧ (zK S0 bb = 0 ∧ zP S0 0 bb = some (bb + 1)) ∧ (rwC S0 vr = V ∧ (∀ i, 0 ≤ V i ∧ V i ≤ 127) ∧ ∀ c, zP S0 0 vr = some c → c ≠ bb + 1) ∧ (zI S 1 x0).toInt = p ∧ (0 ≤ p ∧ p ≤ 1000) ∧ mCb S bb = m
section PJS
variable {S0 S S' : ZS} {x0 vr bb : Nat} {V : Int → Int} {p : Int} {m : Int → Int} {o : Int32 × ZS} {x1 x2 : Int32}
theorem pj_ne (h : PJ S0 S x0 vr bb V p m) : vr ≠ x0 ∧ vr ≠ bb ∧ x0 ≠ bb := by
  obtain ⟨-, ⟨k5, -, k6⟩, ⟨k0, -⟩, -⟩ := h
  refine ⟨fun e => ?_, fun e => ?_, fun e => ?_⟩
  · rw [e, k5] at k6; exact absurd k6 (by decide)
  · rw [e, k0] at k6; exact absurd k6 (by decide)
  · rw [e, k0] at k5; exact absurd k5 (by decide)
theorem pj_V (h : PJ S0 S x0 vr bb V p m) : rwC S vr = V := by
  obtain ⟨n1, n2, -⟩ := pj_ne h
  obtain ⟨hF, -, -, ⟨hV, -, hc⟩, -⟩ := h
  rw [← hV]
  funext i
  unfold rwC
  rw [hF.2.2.1 1 vr n1 n2, hF.2.1]
  cases he : zP S0 0 vr with
  | none => rfl
  | some c =>
    have e := hF.2.2.2.1 c (hc c he)
    simp only [e]
theorem pj_P (h : PJ S0 S x0 vr bb V p m) : zP S 0 x0 = some vr ∧ zK S x0 = 5 ∧ zK S bb = 0 ∧ zP S 0 bb = some (bb + 1) := by
  obtain ⟨hF, ⟨k5, p0, k6⟩, ⟨k0, pb⟩, -⟩ := h
  exact ⟨by rw [hF.2.1]; exact p0, by rw [hF.1.2.2.1]; exact k5, by rw [hF.1.2.2.1]; exact k0, by rw [hF.2.1]; exact pb⟩
theorem pj_at {v : Int32} {q : Int} (h : PJ S0 S x0 vr bb V p m) (e : S' = zsI S 1 x0 v) (hv : v.toInt = q) (hq : 0 ≤ q ∧ q ≤ 1000) : PJ S0 S' x0 vr bb V q m ∧ ∀ j, zI S' j bb = zI S j bb := by
  obtain ⟨-, -, n3⟩ := pj_ne h
  obtain ⟨hF, a1, a2, a3, a4, a5, a6⟩ := h
  refine ⟨⟨pfr_t hF (pfr_I e), a1, a2, a3, by rw [e, zI_self]; exact hv, hq, (mB_I e).trans a6⟩, fun j => by rw [e, zI_b (fun g => n3 g.symm)]⟩
theorem p_skipP (h : PJ S0 S x0 vr bb V p m) (hp : p ≤ 990) (hf : f_X5_skip x0 x1 S = some o) : (∀ j, zI o.2 j bb = zI S j bb) ∧ ((o.1.toInt = 1 ∧ V p = x1.toInt ∧ PJ S0 o.2 x0 vr bb V (p + 1) m) ∨ (o.1.toInt = 0 ∧ V p ≠ x1.toInt ∧ o.2 = S)) := by
  have hf : f_X5_skip_0 x0 x1 S = some o := hf
  obtain ⟨P0, k5, k0, pb⟩ := pj_P h
  have hV := pj_V h
  obtain ⟨-, -, -, -, hp4, hp5, -⟩ := id h
  unfold f_X5_skip_0 at hf
  obtain ⟨-, hf⟩ := m_chkE hf
  replace hf := m_calY hf P0
  obtain ⟨-, hf⟩ := m_chkE hf
  obtain ⟨-, hf⟩ := m_chkE hf
  obtain ⟨r2, h_r2, hf⟩ := m_calR hf (fun _ h => ro_X6_at h)
  dsimp only at hf
  have p_r2 := pc_X6_at h_r2
  dsimp only at p_r2
  rw [hV, hp4] at p_r2
  rcases m_ifE hf with ⟨c1, hf⟩ | ⟨c1, hf⟩
  · skip
    replace c1 := ti_eqP (a := r2) (b := x1) c1 rfl rfl
    obtain ⟨-, hf⟩ := m_chkE hf
    obtain ⟨v3, e_v3, hf⟩ := m_bndE hf
    have t_v3 : v3.toInt = (zI S 1 x0).toInt + 1 := ti_add e_v3 rfl (show (1 : Int32).toInt = 1 from rfl) (by omega) (by omega)
    obtain ⟨-, hf⟩ := m_chkE hf
    obtain ⟨S4, e_S4, hf⟩ := m_bndE hf
    obtain ⟨-, hf⟩ := m_chkE hf
    cases hf
    try dsimp only
    obtain ⟨g1, g2⟩ := pj_at (q := p + 1) h e_S4 (by omega) (by omega)
    exact ⟨g2, Or.inl ⟨rfl, by omega, g1⟩⟩
  · skip
    replace c1 := ti_eqN (a := r2) (b := x1) c1 rfl rfl
    obtain ⟨-, hf⟩ := m_chkE hf
    cases hf
    try dsimp only
    exact ⟨fun _ => rfl, Or.inr ⟨rfl, by omega, rfl⟩⟩
theorem p_man {x1 : Int32} (hb : 0 ≤ x1.toInt ∧ x1.toInt ≤ 127) (hL : isL x1.toInt) (hf : f_J0_indexOf_0f7a4 1 x1 S = some o) : o.1.toInt + 1 = manV x1.toInt ∧ -1 ≤ o.1.toInt ∧ o.1.toInt ≤ 13 := by
  have g := p_indexOf hb (by decide) (by decide) hf
  have hl : ((strL 1).length : Int) = 14 := rfl
  rw [hl] at g
  have s0 : (strL 1).getD 0 0 = 80 := rfl
  have s1 : (strL 1).getD 1 0 = 78 := rfl
  have s2 : (strL 1).getD 2 0 = 66 := rfl
  have s3 : (strL 1).getD 3 0 = 82 := rfl
  have s4 : (strL 1).getD 4 0 = 81 := rfl
  have s5 : (strL 1).getD 5 0 = 75 := rfl
  have s6 : (strL 1).getD 6 0 = 32 := rfl
  have s7 : (strL 1).getD 7 0 = 32 := rfl
  have s8 : (strL 1).getD 8 0 = 112 := rfl
  have s9 : (strL 1).getD 9 0 = 110 := rfl
  have s10 : (strL 1).getD 10 0 = 98 := rfl
  have s11 : (strL 1).getD 11 0 = 114 := rfl
  have s12 : (strL 1).getD 12 0 = 113 := rfl
  have s13 : (strL 1).getD 13 0 = 107 := rfl
  unfold isL at hL
  rcases g with ⟨a, b⟩ | ⟨a1, a2, a3, a4⟩
  · have b0 := b 0 (by decide) (by decide)
    have b1 := b 1 (by decide) (by decide)
    have b2 := b 2 (by decide) (by decide)
    have b3 := b 3 (by decide) (by decide)
    have b4 := b 4 (by decide) (by decide)
    have b5 := b 5 (by decide) (by decide)
    have b8 := b 8 (by decide) (by decide)
    have b9 := b 9 (by decide) (by decide)
    have b10 := b 10 (by decide) (by decide)
    have b11 := b 11 (by decide) (by decide)
    have b12 := b 12 (by decide) (by decide)
    have b13 := b 13 (by decide) (by decide)
    rw [show Int.toNat 0 = 0 from rfl, s0] at b0
    rw [show Int.toNat 1 = 1 from rfl, s1] at b1
    rw [show Int.toNat 2 = 2 from rfl, s2] at b2
    rw [show Int.toNat 3 = 3 from rfl, s3] at b3
    rw [show Int.toNat 4 = 4 from rfl, s4] at b4
    rw [show Int.toNat 5 = 5 from rfl, s5] at b5
    rw [show Int.toNat 8 = 8 from rfl, s8] at b8
    rw [show Int.toNat 9 = 9 from rfl, s9] at b9
    rw [show Int.toNat 10 = 10 from rfl, s10] at b10
    rw [show Int.toNat 11 = 11 from rfl, s11] at b11
    rw [show Int.toNat 12 = 12 from rfl, s12] at b12
    rw [show Int.toNat 13 = 13 from rfl, s13] at b13
    unfold manV
    omega
  · have e : o.1.toInt = 0 ∨ o.1.toInt = 1 ∨ o.1.toInt = 2 ∨ o.1.toInt = 3 ∨ o.1.toInt = 4 ∨ o.1.toInt = 5 ∨ o.1.toInt = 6 ∨ o.1.toInt = 7 ∨ o.1.toInt = 8 ∨ o.1.toInt = 9 ∨ o.1.toInt = 10 ∨ o.1.toInt = 11 ∨ o.1.toInt = 12 ∨ o.1.toInt = 13 := by omega
    unfold manV
    rcases e with e | e | e | e | e | e | e | e | e | e | e | e | e | e <;> rw [e] at a3 ⊢
    · rw [show Int.toNat 0 = 0 from rfl, s0] at a3; omega
    · rw [show Int.toNat 1 = 1 from rfl, s1] at a3; omega
    · rw [show Int.toNat 2 = 2 from rfl, s2] at a3; omega
    · rw [show Int.toNat 3 = 3 from rfl, s3] at a3; omega
    · rw [show Int.toNat 4 = 4 from rfl, s4] at a3; omega
    · rw [show Int.toNat 5 = 5 from rfl, s5] at a3; omega
    · rw [show Int.toNat 6 = 6 from rfl, s6] at a3; omega
    · rw [show Int.toNat 7 = 7 from rfl, s7] at a3; omega
    · rw [show Int.toNat 8 = 8 from rfl, s8] at a3; omega
    · rw [show Int.toNat 9 = 9 from rfl, s9] at a3; omega
    · rw [show Int.toNat 10 = 10 from rfl, s10] at a3; omega
    · rw [show Int.toNat 11 = 11 from rfl, s11] at a3; omega
    · rw [show Int.toNat 12 = 12 from rfl, s12] at a3; omega
    · rw [show Int.toNat 13 = 13 from rfl, s13] at a3; omega
/-- what is held of the men while they are read -/
noncomputable def MI (S : ZS) (bb : Nat) (m : Int → Int) (r f : Int) : Prop := MBd m ∧ KI m (zI S 1 bb).toInt 0 ∧ KI m (zI S 2 bb).toInt 1 ∧ Zr m r f
theorem ki_up {k w s v : Int} (h : KI m k w) (h0 : m s = 0) (hw : w = 0 ∨ w = 1) (hv : v ≠ 6 + 8 * w) : KI (up m s v) k w := by
  intro q q1 q2 q3
  by_cases e : q = s
  · rw [e, up_s] at q3; exact absurd q3 hv
  · rw [up_n e] at q3
    obtain ⟨g1, g2, g3⟩ := h q q1 q2 q3
    have ne : k ≠ s := fun e2 => by rw [e2, h0] at g3; omega
    exact ⟨g1, g2, by rw [up_n ne]; exact g3⟩
theorem ki_new {s v w : Int} (hs : 0 ≤ s ∧ s < 64) (hv : v = 6 + 8 * w) : KI (up m s v) s w := fun q q1 q2 q3 => ⟨hs.1, hs.2, by rw [up_s]; exact hv⟩
theorem zr_up {r f v : Int} (h : Zr m r f) (hf : 0 ≤ f ∧ f < 8) (hr : 0 ≤ r) : Zr (up m (8 * r + f) v) r (f + 1) := fun s s0 hs => by
  rw [up_n (by omega)]
  exact h s s0 (by omega)
theorem zr_le {r f g : Int} (h : Zr m r f) (hg : f ≤ g) : Zr m r g := fun s s0 hs => h s s0 (by omega)
theorem rank_c {x2 : Int32} {r : Int} (hx : x2.toInt = 8 * r) (hr : 0 ≤ r ∧ r ≤ 7) : ∀ (n : Nat) (x3 x4 : Int32) (S : ZS) (p : Int) (m : Int → Int) (k : Nat), PJ S0 S x0 vr bb V p m → MI S bb m r x4.toInt → (x3.toInt = 0 ∨ x3.toInt = 1) → (0 ≤ x4.toInt ∧ x4.toInt ≤ 16) → p + (8 - x4.toInt) ≤ 980 → p ≤ 980 → 9 ≤ (k : Int) + x4.toInt → 1 ≤ k → f_X5_readRank_5 n x0 bb x2 x3 x4 S = some o → (∀ j, 3 ≤ j → zI o.2 j bb = zI S j bb) ∧ ((o.1.toInt = 1 ∧ ∃ q m2, rkV V x2.toInt k p x4.toInt x3.toInt m = some (q, m2) ∧ PJ S0 o.2 x0 vr bb V q m2 ∧ q ≤ p + (8 - x4.toInt) ∧ MI o.2 bb m2 r 8) ∨ (o.1.toInt = 0 ∧ rkV V x2.toInt k p x4.toInt x3.toInt m = none)) := by
  intro n
  induction n with
  | zero => intro x3 x4 S p m k _ _ _ _ _ _ _ _ hf; cases hf
  | succ n ih =>
    intro x3 x4 S p m k hJ hM h3 h4 hpb hpp hk hk1 hf
    have hf : f_X5_readRank_5s (f_X5_readRank_5 n) x0 bb x2 x3 x4 S = some o := hf
    obtain ⟨k2, rfl⟩ : ∃ k2, k = k2 + 1 := ⟨k - 1, by omega⟩
    obtain ⟨P0, k5, k0, pb⟩ := pj_P hJ
    have hV := pj_V hJ
    obtain ⟨-, -, -, ⟨-, hVb, -⟩, hp4, hp5, hm⟩ := id hJ
    obtain ⟨M1, M2, M3, M4⟩ := id hM
    have b0 := hVb p
    -- one step on
    have nxt : ∀ (S1 : ZS) (m1 : Int → Int) (t0 : Int32) (x6 : Int32), PJ S0 S1 x0 vr bb V p m1 → (∀ j, 3 ≤ j → zI S1 j bb = zI S j bb) → x4.toInt < 8 → 1 ≤ t0.toInt → t0.toInt ≤ 8 → (x6.toInt = 0 ∨ x6.toInt = 1) → MI S1 bb m1 r (x4.toInt + t0.toInt) → rkV V x2.toInt (k2 + 1) p x4.toInt x3.toInt m = rkV V x2.toInt k2 (p + 1) (x4.toInt + t0.toInt) x6.toInt m1 → f_X5_readRank_105 (f_X5_readRank_5 n) x0 bb x2 x6 t0 x4 S1 = some o → (∀ j, 3 ≤ j → zI o.2 j bb = zI S j bb) ∧ ((o.1.toInt = 1 ∧ ∃ q m2, rkV V x2.toInt (k2 + 1) p x4.toInt x3.toInt m = some (q, m2) ∧ PJ S0 o.2 x0 vr bb V q m2 ∧ q ≤ p + (8 - x4.toInt) ∧ MI o.2 bb m2 r 8) ∨ (o.1.toInt = 0 ∧ rkV V x2.toInt (k2 + 1) p x4.toInt x3.toInt m = none)) := by
      intro S1 m1 t0 x6 J1 i1 hlt ht1 ht2 h6 MI1 er hf
      have h41 : (zI S1 1 x0).toInt = p := J1.2.2.2.2.1
      unfold f_X5_readRank_105 at hf
      obtain ⟨v1, e1, hf⟩ := m_bndE hf
      obtain ⟨-, hf⟩ := m_chkE hf
      obtain ⟨v2, e2, hf⟩ := m_bndE hf
      obtain ⟨-, hf⟩ := m_chkE hf
      obtain ⟨S3, e3, hf⟩ := m_bndE hf
      have t1 : v1.toInt = x4.toInt + t0.toInt := ti_add e1 rfl rfl (by omega) (by omega)
      have t2 : v2.toInt = p + 1 := by
        have := ti_add (c := v2) (a := zI S1 1 x0) (b := 1) e2 rfl (show (1 : Int32).toInt = 1 from rfl) (by omega) (by omega)
        omega
      obtain ⟨J3, i3⟩ := pj_at (q := p + 1) J1 e3 t2 (by omega)
      have MI3 : MI S3 bb m1 r v1.toInt := by
        obtain ⟨c1, c2, c3, c4⟩ := MI1
        rw [t1]
        exact ⟨c1, by rw [i3]; exact c2, by rw [i3]; exact c3, c4⟩
      obtain ⟨g1, g2⟩ := ih x6 v1 S3 (p + 1) m1 k2 J3 MI3 h6 (by omega) (by omega) (by omega) (by omega) (by omega) hf
      refine ⟨fun j hj => (g1 j hj).trans ((i3 j).trans (i1 j hj)), ?_⟩
      rw [er, ← t1]
      rcases g2 with ⟨a1, q, m2, a2, a3, a4, a5⟩ | ⟨a1, a2⟩
      · exact Or.inl ⟨a1, q, m2, a2, a3, by omega, a5⟩
      · exact Or.inr ⟨a1, a2⟩
    have fin : ∀ (c d t0 : Int32), c.toInt = V p → (d.toInt = 0 ∨ d.toInt = 1) → (d.toInt = 1 ↔ 49 ≤ V p ∧ V p ≤ 56) → t0.toInt = manV (V p) → x4.toInt < 8 → f_X5_readRank_53 (f_X5_readRank_5 n) x0 bb x2 x3 x4 c d t0 S = some o → (∀ j, 3 ≤ j → zI o.2 j bb = zI S j bb) ∧ ((o.1.toInt = 1 ∧ ∃ q m2, rkV V x2.toInt (k2 + 1) p x4.toInt x3.toInt m = some (q, m2) ∧ PJ S0 o.2 x0 vr bb V q m2 ∧ q ≤ p + (8 - x4.toInt) ∧ MI o.2 bb m2 r 8) ∨ (o.1.toInt = 0 ∧ rkV V x2.toInt (k2 + 1) p x4.toInt x3.toInt m = none)) := by
      intro c d t0 hc hd hd1 ht hlt hf
      have mb := manV_b (V p)
      have z0 : (0 : Int32).toInt = 0 := rfl
      unfold f_X5_readRank_53 at hf
      rcases m_ifE hf with ⟨c1, hf⟩ | ⟨c1, hf⟩
      · replace c1 := ti_eqP (a := d) (b := (0 : Int32)) c1 rfl rfl
        have nd : ¬ (49 ≤ V p ∧ V p ≤ 56) := fun h => by have := hd1.2 h; omega
        rcases m_ifE hf with ⟨c2, hf⟩ | ⟨c2, hf⟩
        · replace c2 := ti_eqP (a := t0) (b := (0 : Int32)) c2 rfl rfl
          unfold f_X5_readRank_72 at hf
          obtain ⟨-, hf⟩ := m_chkE hf
          cases hf
          exact ⟨fun _ _ => rfl, Or.inr ⟨rfl, rk_no hlt nd (by omega)⟩⟩
        · replace c2 := ti_eqN (a := t0) (b := (0 : Int32)) c2 rfl rfl
          unfold f_X5_readRank_74 at hf
          rcases m_ifE hf with ⟨c3, hf⟩ | ⟨c3, hf⟩
          · obtain ⟨v1, e1, hf⟩ := m_bndE hf
            have t1 : v1.toInt = x2.toInt + x4.toInt := ti_add e1 rfl rfl (by omega) (by omega)
            obtain ⟨-, hf⟩ := m_chkE hf
            obtain ⟨⟨r9, S9⟩, h9, hf⟩ := m_calE hf
            dsimp only at hf
            obtain ⟨s9, m9, w6, n6, w14, n14, o9⟩ := p_put pb (by omega) h9
            have hz : m v1.toInt = 0 := M4 v1.toInt (by omega) (Or.inr ⟨by omega, by omega⟩)
            have m9' : mCb S9 bb = up m (x2.toInt + x4.toInt) (manV (V p)) := by rw [m9, hm, t1, ht]
            have n3 := (pj_ne hJ).2.2
            have J9 : PJ S0 S9 x0 vr bb V p (up m (x2.toInt + x4.toInt) (manV (V p))) := by
              obtain ⟨f1, f2, f3, f4, f5, f6, f7⟩ := hJ
              exact ⟨pfr_t f1 (pfr_b s9), f2, f3, f4, by rw [s9.2.2.1 1 x0 n3]; exact f5, f6, m9'⟩
            have hbb : x2.toInt + x4.toInt = 8 * r + x4.toInt := by omega
            have MI9 : MI S9 bb (up m (x2.toInt + x4.toInt) (manV (V p))) r (x4.toInt + 1) := by
              refine ⟨mbd_up M1 mb, ?_, ?_, by rw [hbb]; exact zr_up M4 (by omega) hr.1⟩
              · by_cases e6 : t0.toInt = 6
                · rw [w6 e6, t1]
                  exact ki_new (by omega) (by omega)
                · rw [n6 e6]
                  exact ki_up M2 (by rw [← t1]; exact hz) (Or.inl rfl) (by omega)
              · by_cases e14 : t0.toInt = 14
                · rw [w14 e14, t1]
                  exact ki_new (by omega) (by omega)
                · rw [n14 e14]
                  exact ki_up M3 (by rw [← t1]; exact hz) (Or.inr rfl) (by omega)
            unfold f_X5_readRank_89 at hf
            rcases m_ifE hf with ⟨c4, hf⟩ | ⟨c4, hf⟩
            · refine nxt S9 _ 1 d J9 (fun j hj => o9 j (by omega) (by omega)) hlt (by decide) (by decide) hd MI9 ?_ hf
              rw [rk_man hlt nd (by omega), c1]
              rfl
            · exact absurd (Int32.toInt_inj.1 (c1.trans z0.symm)) c4
          · exact absurd (Int32.toInt_inj.1 (c1.trans z0.symm)) c3
      · replace c1 := ti_eqN (a := d) (b := (0 : Int32)) c1 rfl rfl
        have hdg := hd1.1 (by omega)
        rcases m_ifE hf with ⟨c2, hf⟩ | ⟨c2, hf⟩
        · replace c2 := ti_eqP (a := x3) (b := (0 : Int32)) c2 rfl rfl
          unfold f_X5_readRank_74 at hf
          rcases m_ifE hf with ⟨c3, hf⟩ | ⟨c3, hf⟩
          · rw [c3] at c1
            exact absurd rfl c1
          · unfold f_X5_readRank_89 at hf
            rcases m_ifE hf with ⟨c4, hf⟩ | ⟨c4, hf⟩
            · rw [c4] at c1
              exact absurd rfl c1
            · obtain ⟨v1, e1, hf⟩ := m_bndE hf
              have t1 : v1.toInt = V p - 48 := by
                have := ti_sub (c := v1) (a := c) (b := 48) e1 rfl (show (48 : Int32).toInt = 48 from rfl) (by omega) (by omega)
                omega
              refine nxt S m v1 d hJ (fun _ _ => rfl) hlt (by omega) (by omega) hd ⟨M1, M2, M3, zr_le M4 (by omega)⟩ ?_ hf
              rw [rk_dg hlt hdg c2, t1, show d.toInt = 1 by omega]
        · replace c2 := ti_eqN (a := x3) (b := (0 : Int32)) c2 rfl rfl
          unfold f_X5_readRank_72 at hf
          obtain ⟨-, hf⟩ := m_chkE hf
          cases hf
          exact ⟨fun _ _ => rfl, Or.inr ⟨rfl, rk_dd hlt hdg c2⟩⟩
    unfold f_X5_readRank_5s at hf
    rcases m_ifE hf with ⟨c1, hf⟩ | ⟨c1, hf⟩
    · skip
      replace c1 := ti_leP (a := (8 : Int32)) (b := x4) c1 (show (8 : Int32).toInt = 8 from rfl) rfl
      rcases m_ifE hf with ⟨c2, hf⟩ | ⟨c2, hf⟩
      · skip
        replace c2 := ti_eqP (a := x4) (b := (8 : Int32)) c2 rfl (show (8 : Int32).toInt = 8 from rfl)
        unfold f_X5_readRank_136 at hf
        obtain ⟨-, hf⟩ := m_chkE hf
        cases hf
        try dsimp only
        rw [c2] at M4
        exact ⟨fun _ _ => rfl, Or.inl ⟨rfl, p, m, rk_end c2, hJ, by omega, ⟨M1, M2, M3, M4⟩⟩⟩
      · skip
        replace c2 := ti_eqN (a := x4) (b := (8 : Int32)) c2 rfl (show (8 : Int32).toInt = 8 from rfl)
        unfold f_X5_readRank_136 at hf
        obtain ⟨-, hf⟩ := m_chkE hf
        cases hf
        try dsimp only
        exact ⟨fun _ _ => rfl, Or.inr ⟨rfl, rk_over (by omega)⟩⟩
    · skip
      replace c1 := ti_leN (a := (8 : Int32)) (b := x4) c1 (show (8 : Int32).toInt = 8 from rfl) rfl
      obtain ⟨-, hf⟩ := m_chkE hf
      replace hf := m_calY hf P0
      obtain ⟨-, hf⟩ := m_chkE hf
      obtain ⟨-, hf⟩ := m_chkE hf
      obtain ⟨r2, h_r2, hf⟩ := m_calR hf (fun _ h => ro_X6_at h)
      dsimp only at hf
      have p_r2 := pc_X6_at h_r2
      dsimp only at p_r2
      rw [hV, hp4] at p_r2
      obtain ⟨r3, h_r3, hf⟩ := m_calR hf (fun _ h => ro_X11_isRank h)
      dsimp only at hf
      have p_r3 := pc_X11_isRank h_r3
      dsimp only at p_r3
      rw [p_r2] at p_r3
      obtain ⟨r4, h_r4, hf⟩ := m_calR hf (fun _ h => ro_X11_isLetter h)
      dsimp only at hf
      have p_r4 := pc_X11_isLetter h_r4
      dsimp only at p_r4
      rw [p_r2] at p_r4
      rcases m_ifE hf with ⟨c3, hf⟩ | ⟨c3, hf⟩
      · skip
        replace c3 := ti_eqP (a := r4) (b := (0 : Int32)) c3 rfl (show (0 : Int32).toInt = 0 from rfl)
        refine fin r2 r3 0 p_r2 p_r3.1 p_r3.2 ?_ (by omega) hf
        have : ¬ manV (V p) ≠ 0 := fun h => by have := p_r4.2.2 (manV_L h); omega
        show (0 : Int) = _
        omega
      · skip
        replace c3 := ti_eqN (a := r4) (b := (0 : Int32)) c3 rfl (show (0 : Int32).toInt = 0 from rfl)
        obtain ⟨-, hf⟩ := m_chkE hf
        obtain ⟨r5, h_r5, hf⟩ := m_calR hf (fun _ h => ro_J0_indexOf_0f7a4 h)
        dsimp only at hf
        obtain ⟨q5, b51, b52⟩ := p_man (by omega) (by rw [p_r2]; exact p_r4.2.1 (by omega)) h_r5
        dsimp only at q5 b51 b52
        obtain ⟨v6, e_v6, hf⟩ := m_bndE hf
        have t_v6 : v6.toInt = r5.toInt + 1 := ti_add e_v6 rfl (show (1 : Int32).toInt = 1 from rfl) (by omega) (by omega)
        exact fin r2 r3 v6 p_r2 p_r3.1 p_r3.2 (by rw [t_v6, q5, p_r2]) (by omega) hf
end PJS
/-- a piece of reading that may fail, one behind the other -/
noncomputable def bnd2 {α β : Type} (x : Option α) (k : α → Option β) : Option β := match x with
  | none => none
  | some a => k a
/-- the men of a position, as the class reads them -/
noncomputable def mhV (V : Int → Int) : Nat → Int → (Int → Int) → Option (Int × (Int → Int))
  | 0, p, m => some (p, m)
  | r + 1, p, m => if r = 7 then bnd2 (rkV V (8 * (r : Int)) 9 p 0 0 m) (fun z => mhV V r z.1 z.2) else if V p = 47 then bnd2 (rkV V (8 * (r : Int)) 9 (p + 1) 0 0 m) (fun z => mhV V r z.1 z.2) else none
/-- and as the reference reads them, with the blank behind -/
noncomputable def mrV (V : Int → Int) : Nat → Int → (Int → Int) → Option (Int × (Int → Int))
  | 0, p, m => some (p, m)
  | r + 1, p, m => bnd2 (rkV V (8 * (r : Int)) 9 p 0 0 m) (fun z => if V z.1 = (if r = 0 then 32 else 47) then mrV V r (z.1 + 1) z.2 else none)
noncomputable def spV (V : Int → Int) (z : Int × (Int → Int)) : Option (Int × (Int → Int)) := if V z.1 = 32 then some (z.1 + 1, z.2) else none
theorem mh_mr1 {V : Int → Int} : ∀ (r : Nat) (p : Int) (m : Int → Int), r ≤ 6 → bnd2 (mhV V (r + 1) p m) (spV V) = if V p = 47 then mrV V (r + 1) (p + 1) m else none
  | 0, p, m, _ => by
    show bnd2 (if (0 : Nat) = 7 then _ else if V p = 47 then bnd2 (rkV V (8 * ((0 : Nat) : Int)) 9 (p + 1) 0 0 m) (fun z => mhV V 0 z.1 z.2) else none) (spV V) = _
    rw [if_neg (by decide)]
    by_cases c : V p = 47
    · rw [if_pos c, if_pos c]
      show bnd2 (bnd2 (rkV V (8 * ((0 : Nat) : Int)) 9 (p + 1) 0 0 m) (fun z => mhV V 0 z.1 z.2)) (spV V) = bnd2 (rkV V (8 * ((0 : Nat) : Int)) 9 (p + 1) 0 0 m) (fun z => if V z.1 = (if (0 : Nat) = 0 then 32 else 47) then mrV V 0 (z.1 + 1) z.2 else none)
      cases rkV V (8 * ((0 : Nat) : Int)) 9 (p + 1) 0 0 m with
      | none => rfl
      | some z => rfl
    · rw [if_neg c, if_neg c]
      rfl
  | r + 1, p, m, h => by
    have ih := mh_mr1 (V := V) r
    show bnd2 (if (r + 1 : Nat) = 7 then _ else if V p = 47 then bnd2 (rkV V (8 * ((r + 1 : Nat) : Int)) 9 (p + 1) 0 0 m) (fun z => mhV V (r + 1) z.1 z.2) else none) (spV V) = _
    rw [if_neg (by omega)]
    by_cases c : V p = 47
    · rw [if_pos c, if_pos c]
      show bnd2 (bnd2 (rkV V (8 * ((r + 1 : Nat) : Int)) 9 (p + 1) 0 0 m) (fun z => mhV V (r + 1) z.1 z.2)) (spV V) = bnd2 (rkV V (8 * ((r + 1 : Nat) : Int)) 9 (p + 1) 0 0 m) (fun z => if V z.1 = (if (r + 1 : Nat) = 0 then 32 else 47) then mrV V (r + 1) (z.1 + 1) z.2 else none)
      cases rkV V (8 * ((r + 1 : Nat) : Int)) 9 (p + 1) 0 0 m with
      | none => rfl
      | some z =>
        show bnd2 (mhV V (r + 1) z.1 z.2) (spV V) = if V z.1 = (if (r + 1 : Nat) = 0 then 32 else 47) then mrV V (r + 1) (z.1 + 1) z.2 else none
        rw [if_neg (show ¬ ((r + 1 : Nat) = 0) by omega)]
        exact ih z.1 z.2 (by omega)
    · rw [if_neg c, if_neg c]
      rfl
theorem mh_mr {V : Int → Int} {p : Int} {m : Int → Int} : bnd2 (mhV V 8 p m) (spV V) = mrV V 8 p m := by
  show bnd2 (if (7 : Nat) = 7 then bnd2 (rkV V (8 * ((7 : Nat) : Int)) 9 p 0 0 m) (fun z => mhV V 7 z.1 z.2) else _) (spV V) = bnd2 (rkV V (8 * ((7 : Nat) : Int)) 9 p 0 0 m) (fun z => if V z.1 = (if (7 : Nat) = 0 then 32 else 47) then mrV V 7 (z.1 + 1) z.2 else none)
  rw [if_pos rfl]
  cases rkV V (8 * ((7 : Nat) : Int)) 9 p 0 0 m with
  | none => rfl
  | some z =>
    show bnd2 (mhV V 7 z.1 z.2) (spV V) = if V z.1 = (if (7 : Nat) = 0 then 32 else 47) then mrV V 7 (z.1 + 1) z.2 else none
    rw [if_neg (show ¬ ((7 : Nat) = 0) by decide)]
    exact mh_mr1 6 z.1 z.2 (by decide)
section PJM
variable {S0 S S' : ZS} {x0 vr bb : Nat} {V : Int → Int} {p : Int} {m : Int → Int} {o : Int32 × ZS} {x1 x2 : Int32}
theorem zr_dn {r : Int} (h : Zr m r 8) : Zr m (r - 1) 0 := fun s s0 hs => h s s0 (by omega)
theorem men_c : ∀ (n : Nat) (x2 : Int32) (S : ZS) (p : Int) (m : Int → Int) (r : Nat), x2.toInt = (r : Int) - 1 → r ≤ 8 → PJ S0 S x0 vr bb V p m → MI S bb m (x2.toInt) 0 → p + 9 * (r : Int) ≤ 900 → f_X5_readMen_3 n x0 bb x2 S = some o → (∀ j, 3 ≤ j → zI o.2 j bb = zI S j bb) ∧ ((o.1.toInt = 1 ∧ ∃ q m2, mhV V r p m = some (q, m2) ∧ PJ S0 o.2 x0 vr bb V q m2 ∧ q ≤ p + 9 * (r : Int) ∧ MI o.2 bb m2 (-1) 0) ∨ (o.1.toInt = 0 ∧ mhV V r p m = none)) := by
  intro n
  induction n with
  | zero => intro x2 S p m r _ _ _ _ _ hf; cases hf
  | succ n ih =>
    intro x2 S p m r hx hr hJ hM hpb hf
    have hf : f_X5_readMen_3s (f_X5_readMen_3 n) x0 bb x2 S = some o := hf
    have z0 : (0 : Int32).toInt = 0 := rfl
    have z47 : (47 : Int32).toInt = 47 := rfl
    have stp : ∀ (S1 : ZS) (q0 : Int) (r1 : Nat), r = r1 + 1 → PJ S0 S1 x0 vr bb V q0 m → (∀ j, zI S1 j bb = zI S j bb) → q0 ≤ p + 1 → p ≤ q0 → mhV V r p m = bnd2 (rkV V (8 * (r1 : Int)) 9 q0 0 0 m) (fun z => mhV V r1 z.1 z.2) → f_X5_readMen_22 (f_X5_readMen_3 n) x0 bb x2 S1 = some o → (∀ j, 3 ≤ j → zI o.2 j bb = zI S j bb) ∧ ((o.1.toInt = 1 ∧ ∃ q m2, mhV V r p m = some (q, m2) ∧ PJ S0 o.2 x0 vr bb V q m2 ∧ q ≤ p + 9 * (r : Int) ∧ MI o.2 bb m2 (-1) 0) ∨ (o.1.toInt = 0 ∧ mhV V r p m = none)) := by
      intro S1 q0 r1 er J1 i1 hq hq2 eh hf
      have p0 : 0 ≤ p := hJ.2.2.2.2.2.1.1
      unfold f_X5_readMen_22 at hf
      obtain ⟨v1, e1, hf⟩ := m_bndE hf
      have t1 : v1.toInt = 8 * x2.toInt := ti_mul e1 (show (8 : Int32).toInt = 8 from rfl) rfl (by omega) (by omega)
      obtain ⟨-, hf⟩ := m_chkE hf
      obtain ⟨⟨r2, S2⟩, h2, hf⟩ := m_calE hf
      dsimp only at hf
      have M1 : MI S1 bb m (x2.toInt) (0 : Int32).toInt := by
        obtain ⟨c1, c2, c3, c4⟩ := hM
        exact ⟨c1, by rw [i1]; exact c2, by rw [i1]; exact c3, c4⟩
      obtain ⟨g1, g2⟩ := rank_c (r := x2.toInt) t1 (by omega) mFuel 0 0 S1 q0 m 9 J1 M1 (Or.inl rfl) (by decide) (by omega) (by omega) (by decide) (by decide) h2
      dsimp only at g1 g2
      have ev : v1.toInt = 8 * (r1 : Int) := by omega
      rw [ev, z0] at g2
      rcases m_ifE hf with ⟨c1, hf⟩ | ⟨c1, hf⟩
      · replace c1 := ti_eqP (a := r2) (b := (0 : Int32)) c1 rfl rfl
        unfold f_X5_readMen_34 at hf
        obtain ⟨-, hf⟩ := m_chkE hf
        cases hf
        refine ⟨fun j hj => (g1 j hj).trans (i1 j), Or.inr ⟨rfl, ?_⟩⟩
        rcases g2 with ⟨a1, -⟩ | ⟨-, a2⟩
        · omega
        · rw [eh, a2]; rfl
      · replace c1 := ti_eqN (a := r2) (b := (0 : Int32)) c1 rfl rfl
        rcases g2 with ⟨a1, q, m2, a2, a3, a4, a5⟩ | ⟨a1, -⟩
        · obtain ⟨v3, e3, hf⟩ := m_bndE hf
          have t3 : v3.toInt = x2.toInt - 1 := by
            have := ti_add (c := v3) (a := x2) (b := -1) e3 rfl (show (-1 : Int32).toInt = -1 from rfl) (by omega) (by omega)
            omega
          have M2 : MI S2 bb m2 v3.toInt 0 := by
            obtain ⟨c1', c2', c3', c4'⟩ := a5
            rw [t3]
            exact ⟨c1', c2', c3', zr_dn c4'⟩
          obtain ⟨k1, k2⟩ := ih v3 S2 q m2 r1 (by omega) (by omega) a3 M2 (by omega) hf
          refine ⟨fun j hj => (k1 j hj).trans ((g1 j hj).trans (i1 j)), ?_⟩
          have e9 : mhV V r p m = mhV V r1 q m2 := by rw [eh, a2]; rfl
          rw [e9]
          rcases k2 with ⟨b1, q9, m9, b2, b3, b4, b5⟩ | ⟨b1, b2⟩
          · exact Or.inl ⟨b1, q9, m9, b2, b3, by omega, b5⟩
          · exact Or.inr ⟨b1, b2⟩
        · omega
    unfold f_X5_readMen_3s at hf
    rcases m_ifE hf with ⟨c1, hf⟩ | ⟨c1, hf⟩
    · skip
      replace c1 := ti_ltP (a := x2) (b := (0 : Int32)) c1 rfl (show (0 : Int32).toInt = 0 from rfl)
      obtain ⟨-, hf⟩ := m_chkE hf
      cases hf
      try dsimp only
      have e0 : r = 0 := by omega
      subst e0
      refine ⟨fun _ _ => rfl, Or.inl ⟨rfl, p, m, rfl, hJ, by omega, ?_⟩⟩
      rw [show x2.toInt = -1 by omega] at hM
      exact hM
    · skip
      replace c1 := ti_ltN (a := x2) (b := (0 : Int32)) c1 rfl (show (0 : Int32).toInt = 0 from rfl)
      rcases m_ifE hf with ⟨c2, hf⟩ | ⟨c2, hf⟩
      · skip
        replace c2 := ti_leP (a := (7 : Int32)) (b := x2) c2 (show (7 : Int32).toInt = 7 from rfl) rfl
        refine stp S p 7 (by omega) hJ (fun _ => rfl) (by omega) (by omega) ?_ hf
        rw [show r = 7 + 1 by omega]
        rfl
      · skip
        replace c2 := ti_leN (a := (7 : Int32)) (b := x2) c2 (show (7 : Int32).toInt = 7 from rfl) rfl
        obtain ⟨-, hf⟩ := m_chkE hf
        obtain ⟨⟨r1, S1c⟩, h_r1, hf⟩ := m_calE hf
        dsimp only at hf
        obtain ⟨i1, g1⟩ := p_skipP hJ (by omega) h_r1
        dsimp only at i1 g1
        obtain ⟨rq, er⟩ : ∃ rq, r = rq + 1 := ⟨r - 1, by omega⟩
        have eh : mhV V r p m = if V p = 47 then bnd2 (rkV V (8 * (rq : Int)) 9 (p + 1) 0 0 m) (fun z => mhV V rq z.1 z.2) else none := by
          rw [er]
          show (if rq = 7 then _ else if V p = 47 then bnd2 (rkV V (8 * (rq : Int)) 9 (p + 1) 0 0 m) (fun z => mhV V rq z.1 z.2) else none) = _
          rw [if_neg (by omega)]
        rcases m_ifE hf with ⟨c3, hf⟩ | ⟨c3, hf⟩
        · skip
          replace c3 := ti_eqP (a := r1) (b := (0 : Int32)) c3 rfl (show (0 : Int32).toInt = 0 from rfl)
          unfold f_X5_readMen_34 at hf
          obtain ⟨-, hf⟩ := m_chkE hf
          cases hf
          try dsimp only
          rcases g1 with ⟨a1, -⟩ | ⟨a1, a2, a3⟩
          · omega
          · refine ⟨fun j _ => i1 j, Or.inr ⟨rfl, ?_⟩⟩
            rw [eh, if_neg (by omega)]
        · skip
          replace c3 := ti_eqN (a := r1) (b := (0 : Int32)) c3 rfl (show (0 : Int32).toInt = 0 from rfl)
          rcases g1 with ⟨a1, a2, a3⟩ | ⟨a1, -⟩
          · refine stp S1c (p + 1) rq er a3 i1 (by omega) (by omega) ?_ hf
            rw [eh, if_pos (by omega)]
          · omega
end PJM
end
section
/-- the rights, letter by letter -/
noncomputable def rgS (V : Int → Int) (i : Nat) (z : Int × Int) : Int × Int := if V z.1 = (strL 2).getD i 0 then (z.1 + 1, z.2 + 2 ^ i) else z
noncomputable def rgN (V : Int → Int) (p : Int) : Nat → Int × Int
  | 0 => (p, 0)
  | i + 1 => rgS V i (rgN V p i)
/-- how many digits follow, at most three, and what they tell -/
noncomputable def nd3 (V : Int → Int) (p : Int) : Int := if 48 ≤ V p ∧ V p ≤ 57 then (if 48 ≤ V (p + 1) ∧ V (p + 1) ≤ 57 then (if 48 ≤ V (p + 2) ∧ V (p + 2) ≤ 57 then 3 else 2) else 1) else 0
noncomputable def val3 (V : Int → Int) (p k : Int) : Int := if k = 0 then 0 else if k = 1 then V p - 48 else if k = 2 then 10 * (V p - 48) + (V (p + 1) - 48) else 100 * (V p - 48) + 10 * (V (p + 1) - 48) + (V (p + 2) - 48)
noncomputable def numC (V : Int → Int) (p : Int) : Int := if nd3 V p = 0 ∨ (1 < nd3 V p ∧ V p = 48) then -1 else val3 V p (nd3 V p)
/-- the men that may stand -/
noncomputable def NPw (m : Int → Int) : Prop := ∀ s, 0 ≤ s → s < 64 → m s % 8 = 1 → 8 ≤ s ∧ s < 56
noncomputable def SMn (m : Int → Int) (sd ko : Int) : Prop := NPw m ∧ cnt (fun s => m (s : Int) = 6) 64 = 1 ∧ cnt (fun s => m (s : Int) = 14) 64 = 1 ∧ ¬ attd m ko sd
noncomputable def SPs (m : Int → Int) (sd ps : Int) : Prop := ps = -1 ∨ (ps / 8 = 5 - 3 * sd ∧ m ps = 0 ∧ m (ps - (8 - 16 * sd)) = 1 + 8 * (1 - sd) ∧ m (ps + (8 - 16 * sd)) = 0 ∧ pat m ps sd)
section PJR
variable {S0 S S' : ZS} {x0 vr bb : Nat} {V : Int → Int} {p : Int} {m : Int → Int} {o : Int32 × ZS} {x1 x2 : Int32} {sd rt ps : Int}
theorem pj_b {j : Nat} {v : Int32} (h : PJ S0 S x0 vr bb V p m) (e : S' = zsI S j bb v) : PJ S0 S' x0 vr bb V p m ∧ zI S' j bb = v ∧ ∀ i, i ≠ j → zI S' i bb = zI S i bb := by
  obtain ⟨-, -, n3⟩ := pj_ne h
  obtain ⟨hF, a1, a2, a3, a4, a5, a6⟩ := h
  exact ⟨⟨pfr_t hF (pfr_b (sb_I e)), a1, a2, a3, by rw [e, zI_b n3]; exact a4, a5, (mB_I e).trans a6⟩, by rw [e]; exact zI_self _ _ _ _, fun i hi => by rw [e, zI_j hi]⟩
theorem p_side (h : PJ S0 S x0 vr bb V p m) (hp : p ≤ 980) (hf : f_X5_readSide x0 bb S = some o) : (∀ j, j ≠ 3 → zI o.2 j bb = zI S j bb) ∧ ((o.1.toInt = 1 ∧ ((V p = 119 ∧ (zI o.2 3 bb).toInt = 0) ∨ (V p = 98 ∧ (zI o.2 3 bb).toInt = 1)) ∧ PJ S0 o.2 x0 vr bb V (p + 1) m) ∨ (o.1.toInt = 0 ∧ V p ≠ 119 ∧ V p ≠ 98)) := by
  have hf : f_X5_readSide_0 x0 bb S = some o := hf
  obtain ⟨P0, k5, k0, pb⟩ := pj_P h
  have hV := pj_V h
  obtain ⟨-, -, -, -, hp4, hp5, -⟩ := id h
  have z1 : (119 : Int32).toInt = 119 := rfl
  have z2 : (98 : Int32).toInt = 98 := rfl
  have fin : ∀ t0 : Int32, (V p = 98 ↔ t0.toInt = 1) → (t0.toInt = 0 ∨ t0.toInt = 1) → f_X5_readSide_22 x0 t0 bb S = some o → (∀ j, j ≠ 3 → zI o.2 j bb = zI S j bb) ∧ ((o.1.toInt = 1 ∧ ((V p = 119 ∧ (zI o.2 3 bb).toInt = 0) ∨ (V p = 98 ∧ (zI o.2 3 bb).toInt = 1)) ∧ PJ S0 o.2 x0 vr bb V (p + 1) m) ∨ (o.1.toInt = 0 ∧ V p ≠ 119 ∧ V p ≠ 98)) := by
    intro t0 ht ht2 hf
    unfold f_X5_readSide_22 at hf
    obtain ⟨-, hf⟩ := m_chkE hf
    obtain ⟨S1, e1, hf⟩ := m_bndE hf
    obtain ⟨J1, i3, i1⟩ := pj_b h e1
    obtain ⟨-, hf⟩ := m_chkE hf
    obtain ⟨⟨r2, S2⟩, h2, hf⟩ := m_calE hf
    dsimp only at hf
    obtain ⟨i2, g2⟩ := p_skipP J1 (by omega) h2
    dsimp only at i2 g2
    rw [z1] at g2
    rcases m_ifE hf with ⟨c2, hf⟩ | ⟨c2, hf⟩
    · replace c2 := ti_eqP (a := r2) (b := (0 : Int32)) c2 rfl (show (0 : Int32).toInt = 0 from rfl)
      obtain ⟨-, hf⟩ := m_chkE hf
      obtain ⟨⟨r3, S3⟩, h3, hf⟩ := m_calE hf
      dsimp only at hf
      rcases g2 with ⟨a, -⟩ | ⟨-, a2, a3⟩
      · omega
      · rw [a3] at h3
        obtain ⟨i4, g3⟩ := p_skipP J1 (by omega) h3
        dsimp only at i4 g3
        rw [z2] at g3
        rcases m_ifE hf with ⟨c3, hf⟩ | ⟨c3, hf⟩
        · replace c3 := ti_eqP (a := r3) (b := (0 : Int32)) c3 rfl (show (0 : Int32).toInt = 0 from rfl)
          unfold f_X5_readSide_48 at hf
          obtain ⟨-, hf⟩ := m_chkE hf
          cases hf
          rcases g3 with ⟨b1, -⟩ | ⟨-, b2, -⟩
          · omega
          · exact ⟨fun j hj => (i4 j).trans (i1 j hj), Or.inr ⟨rfl, a2, b2⟩⟩
        · replace c3 := ti_eqN (a := r3) (b := (0 : Int32)) c3 rfl (show (0 : Int32).toInt = 0 from rfl)
          unfold f_X5_readSide_43 f_X5_readSide_48 at hf
          obtain ⟨-, hf⟩ := m_chkE hf
          cases hf
          rcases g3 with ⟨b1, b2, b3⟩ | ⟨b1, -⟩
          · refine ⟨fun j hj => (i4 j).trans (i1 j hj), Or.inl ⟨rfl, Or.inr ⟨b2, ?_⟩, b3⟩⟩
            rw [i4, i3]
            exact ht.1 b2
          · omega
    · replace c2 := ti_eqN (a := r2) (b := (0 : Int32)) c2 rfl (show (0 : Int32).toInt = 0 from rfl)
      unfold f_X5_readSide_43 f_X5_readSide_48 at hf
      obtain ⟨-, hf⟩ := m_chkE hf
      cases hf
      rcases g2 with ⟨a1, a2, a3⟩ | ⟨a1, -⟩
      · refine ⟨fun j hj => (i2 j).trans (i1 j hj), Or.inl ⟨rfl, Or.inl ⟨a2, ?_⟩, a3⟩⟩
        rw [i2, i3]
        have : ¬ t0.toInt = 1 := fun h => by have := ht.2 h; omega
        omega
      · omega
  unfold f_X5_readSide_0 at hf
  obtain ⟨-, hf⟩ := m_chkE hf
  replace hf := m_calY hf P0
  obtain ⟨-, hf⟩ := m_chkE hf
  obtain ⟨-, hf⟩ := m_chkE hf
  obtain ⟨r2, h_r2, hf⟩ := m_calR hf (fun _ h => ro_X6_at h)
  dsimp only at hf
  have p_r2 := pc_X6_at h_r2
  dsimp only at p_r2
  rw [hV, hp4] at p_r2
  rcases m_ifE hf with ⟨c1, hf⟩ | ⟨c1, hf⟩
  · skip
    replace c1 := ti_eqP (a := r2) (b := (98 : Int32)) c1 rfl (show (98 : Int32).toInt = 98 from rfl)
    exact fin 1 ⟨fun _ => rfl, fun _ => by omega⟩ (Or.inr rfl) hf
  · skip
    replace c1 := ti_eqN (a := r2) (b := (98 : Int32)) c1 rfl (show (98 : Int32).toInt = 98 from rfl)
    exact fin 0 ⟨fun h => by omega, fun h => absurd h (by decide)⟩ (Or.inl rfl) hf
theorem or_add : ∀ i : Nat, i < 4 → ∀ r : Nat, r < 2 ^ i → (nI r ||| ((1 : Int32) <<< (nI i &&& 31))).toInt = (r : Int) + 2 ^ i := by decide +kernel
theorem rgN_b : ∀ i : Nat, i ≤ 4 → p ≤ (rgN V p i).1 ∧ (rgN V p i).1 ≤ p + (i : Int) ∧ 0 ≤ (rgN V p i).2 ∧ (rgN V p i).2 < 2 ^ i
  | 0, _ => ⟨Int.le_refl _, by show p ≤ p + 0; omega, show (0 : Int) ≤ 0 by decide, show (0 : Int) < 2 ^ 0 by decide⟩
  | i + 1, h => by
    obtain ⟨a1, a2, a3, a4⟩ := rgN_b i (by omega)
    show p ≤ (rgS V i (rgN V p i)).1 ∧ (rgS V i (rgN V p i)).1 ≤ p + ((i + 1 : Nat) : Int) ∧ 0 ≤ (rgS V i (rgN V p i)).2 ∧ (rgS V i (rgN V p i)).2 < 2 ^ (i + 1)
    have e2 : (2 : Int) ^ (i + 1) = 2 ^ i + 2 ^ i := by rw [Int.pow_succ]; omega
    have e3 : (0 : Int) < 2 ^ i := Int.pow_pos (by decide)
    unfold rgS
    split
    · exact ⟨by omega, by omega, by omega, by omega⟩
    · exact ⟨by omega, by omega, by omega, by omega⟩
theorem rg_c : ∀ (n : Nat) (x2 : Int32) (S : ZS) (i : Nat), x2.toInt = (i : Int) → i ≤ 4 → PJ S0 S x0 vr bb V (rgN V p i).1 m → (zI S 4 bb).toInt = (rgN V p i).2 → (0 ≤ p ∧ p ≤ 900) → f_X5_readRights_13 n x0 bb x2 S = some o → (∀ j, j ≠ 4 → zI o.2 j bb = zI S j bb) ∧ (o.1.toInt = 0 ∨ o.1.toInt = 1) ∧ (o.1.toInt = 1 ↔ (rgN V p 4).2 ≠ 0) ∧ PJ S0 o.2 x0 vr bb V (rgN V p 4).1 m ∧ (zI o.2 4 bb).toInt = (rgN V p 4).2 := by
  intro n
  induction n with
  | zero => intro x2 S i _ _ _ _ _ hf; cases hf
  | succ n ih =>
    intro x2 S i hx hi hJ h4 hp hf
    have hf : f_X5_readRights_13s (f_X5_readRights_13 n) x0 bb x2 S = some o := hf
    have z0 : (0 : Int32).toInt = 0 := rfl
    obtain ⟨b1, b2, b3, b4⟩ := rgN_b (V := V) (p := p) i hi
    have nxt : ∀ S1, PJ S0 S1 x0 vr bb V (rgN V p (i + 1)).1 m → (zI S1 4 bb).toInt = (rgN V p (i + 1)).2 → (∀ j, j ≠ 4 → zI S1 j bb = zI S j bb) → i < 4 → f_X5_readRights_47 (f_X5_readRights_13 n) x0 bb x2 S1 = some o → (∀ j, j ≠ 4 → zI o.2 j bb = zI S j bb) ∧ (o.1.toInt = 0 ∨ o.1.toInt = 1) ∧ (o.1.toInt = 1 ↔ (rgN V p 4).2 ≠ 0) ∧ PJ S0 o.2 x0 vr bb V (rgN V p 4).1 m ∧ (zI o.2 4 bb).toInt = (rgN V p 4).2 := by
      intro S1 J1 h41 i1 hlt hf
      unfold f_X5_readRights_47 at hf
      obtain ⟨v1, e1, hf⟩ := m_bndE hf
      have t1 : v1.toInt = x2.toInt + 1 := ti_add e1 rfl (show (1 : Int32).toInt = 1 from rfl) (by omega) (by omega)
      obtain ⟨g1, g2⟩ := ih v1 S1 (i + 1) (by omega) (by omega) J1 h41 hp hf
      exact ⟨fun j hj => (g1 j hj).trans (i1 j hj), g2⟩
    have es : rgN V p (i + 1) = rgS V i (rgN V p i) := rfl
    have hl2 : ((strL 2).length : Int) = 4 := rfl
    unfold f_X5_readRights_13s at hf
    obtain ⟨-, hf⟩ := m_chkE hf
    obtain ⟨r1, h_r1, hf⟩ := m_calR hf (fun _ h => ro_J0_length_8abf5 h)
    dsimp only at hf
    have p_r1 := pc_J0_length_8abf5 h_r1
    dsimp only at p_r1
    have q1 := p_r1.2
    rw [hl2] at q1
    rcases m_ifE hf with ⟨c1, hf⟩ | ⟨c1, hf⟩
    · skip
      replace c1 := ti_leP (a := r1) (b := x2) c1 rfl rfl
      have e4 : i = 4 := by omega
      subst e4
      obtain ⟨-, hf⟩ := m_chkE hf
      rcases m_ifE hf with ⟨c2, hf⟩ | ⟨c2, hf⟩
      · skip
        replace c2 := ti_eqP (a := (zI S 4 bb)) (b := (0 : Int32)) c2 rfl (show (0 : Int32).toInt = 0 from rfl)
        unfold f_X5_readRights_65 at hf
        obtain ⟨-, hf⟩ := m_chkE hf
        cases hf
        try dsimp only
        exact ⟨fun _ _ => rfl, Or.inl rfl, ⟨fun h => absurd h (by decide), fun h => by omega⟩, hJ, h4⟩
      · skip
        replace c2 := ti_eqN (a := (zI S 4 bb)) (b := (0 : Int32)) c2 rfl (show (0 : Int32).toInt = 0 from rfl)
        unfold f_X5_readRights_65 at hf
        obtain ⟨-, hf⟩ := m_chkE hf
        cases hf
        try dsimp only
        exact ⟨fun _ _ => rfl, Or.inr rfl, ⟨fun _ => by omega, fun _ => rfl⟩, hJ, h4⟩
    · skip
      replace c1 := ti_leN (a := r1) (b := x2) c1 rfl rfl
      obtain ⟨-, hf⟩ := m_chkE hf
      obtain ⟨r2, h_r2, hf⟩ := m_calR hf (fun _ h => ro_J0_charAt_5068e h)
      dsimp only at hf
      have p_r2 := pc_J0_charAt_5068e h_r2
      dsimp only at p_r2
      have q2 := p_r2.2.2.2
      rw [hx, Int.toNat_natCast] at q2
      obtain ⟨-, hf⟩ := m_chkE hf
      obtain ⟨⟨r3, S3c⟩, h_r3, hf⟩ := m_calE hf
      dsimp only at hf
      obtain ⟨i3, g3⟩ := p_skipP hJ (by omega) h_r3
      dsimp only at i3 g3
      rw [q2] at g3
      rcases m_ifE hf with ⟨c3, hf⟩ | ⟨c3, hf⟩
      · skip
        replace c3 := ti_eqP (a := r3) (b := (0 : Int32)) c3 rfl (show (0 : Int32).toInt = 0 from rfl)
        rcases g3 with ⟨a1, -⟩ | ⟨-, a2, a3⟩
        · omega
        · have er : rgS V i (rgN V p i) = rgN V p i := if_neg a2
          refine nxt S3c ?_ ?_ (fun j _ => i3 j) (by omega) hf
          · rw [es, er, a3]; exact hJ
          · rw [es, er, a3]; exact h4
      · skip
        replace c3 := ti_eqN (a := r3) (b := (0 : Int32)) c3 rfl (show (0 : Int32).toInt = 0 from rfl)
        obtain ⟨-, hf⟩ := m_chkE hf
        obtain ⟨v4, e_v4, hf⟩ := m_bndE hf
        obtain ⟨v5, e_v5, hf⟩ := m_bndE hf
        obtain ⟨-, hf⟩ := m_chkE hf
        obtain ⟨S6, e_S6, hf⟩ := m_bndE hf
        obtain ⟨a1, a2, a3⟩ : r3.toInt = 1 ∧ V (rgN V p i).1 = (strL 2).getD i 0 ∧ PJ S0 S3c x0 vr bb V ((rgN V p i).1 + 1) m := by
          rcases g3 with g | g
          · exact g
          · have := g.1; omega
        obtain ⟨J6, k6, i6⟩ := pj_b a3 e_S6
        have er : rgS V i (rgN V p i) = ((rgN V p i).1 + 1, (rgN V p i).2 + 2 ^ i) := if_pos a2
        have hor : v5.toInt = (rgN V p i).2 + 2 ^ i := by
          have hr : zI S3c 4 bb = nI (rgN V p i).2.toNat := by
            apply Int32.toInt_inj.1
            have hb16 : (rgN V p i).2 < 16 := by
              have : i = 0 ∨ i = 1 ∨ i = 2 ∨ i = 3 := by omega
              rcases this with h | h | h | h <;> subst h <;> (have b5 := b4; simp at b5; omega)
            rw [i3, h4, nI_toInt (by omega)]
            omega
          have hxx : x2 = nI i := by
            apply Int32.toInt_inj.1
            rw [nI_toInt (by omega)]
            exact hx
          rw [e_v5, e_v4, hr, hxx, or_add i (by omega) (rgN V p i).2.toNat (by
            have h9 : (((rgN V p i).2.toNat : Nat) : Int) < ((2 ^ i : Nat) : Int) := by
              rw [Int.toNat_of_nonneg b3, Int.natCast_pow]
              exact b4
            exact Int.ofNat_lt.1 h9), Int.toNat_of_nonneg b3]
        refine nxt S6 ?_ ?_ (fun j hj => (i6 j hj).trans (i3 j)) (by omega) hf
        · rw [es, er]; exact J6
        · rw [es, er, k6]; exact hor
/-- what a text tells of the rights -/
noncomputable def rgV (V : Int → Int) (p : Int) : Int × Int := if V p = 45 then (p + 1, 0) else rgN V p 4
theorem p_rights (h : PJ S0 S x0 vr bb V p m) (h4 : (zI S 4 bb).toInt = 0) (hp : p ≤ 900) (hf : f_X5_readRights x0 bb S = some o) : (∀ j, j ≠ 4 → zI o.2 j bb = zI S j bb) ∧ (o.1.toInt = 0 ∨ o.1.toInt = 1) ∧ (o.1.toInt = 1 ↔ V p = 45 ∨ (rgV V p).2 ≠ 0) ∧ (o.1.toInt = 1 → PJ S0 o.2 x0 vr bb V (rgV V p).1 m ∧ (zI o.2 4 bb).toInt = (rgV V p).2) := by
  have hf : f_X5_readRights_0 x0 bb S = some o := hf
  have z45 : (45 : Int32).toInt = 45 := rfl
  have z0 : (0 : Int32).toInt = 0 := rfl
  obtain ⟨-, -, -, -, -, hp5, -⟩ := id h
  unfold f_X5_readRights_0 at hf
  obtain ⟨-, hf⟩ := m_chkE hf
  obtain ⟨⟨r1, S1c⟩, h_r1, hf⟩ := m_calE hf
  dsimp only at hf
  obtain ⟨i1, g1⟩ := p_skipP h (by omega) h_r1
  dsimp only at i1 g1
  rw [z45] at g1
  rcases m_ifE hf with ⟨c1, hf⟩ | ⟨c1, hf⟩
  · skip
    replace c1 := ti_eqP (a := r1) (b := (0 : Int32)) c1 rfl (show (0 : Int32).toInt = 0 from rfl)
    rcases g1 with ⟨a1, -⟩ | ⟨-, a2, a3⟩
    · omega
    · rw [a3] at hf
      obtain ⟨k1, k2, k3, k4, k5⟩ := rg_c (p := p) mFuel 0 S 0 rfl (by decide) h (by rw [h4]; rfl) (by omega) hf
      have e : rgV V p = rgN V p 4 := if_neg a2
      rw [e]
      exact ⟨k1, k2, k3.trans ⟨Or.inr, fun g => g.elim (fun g => absurd g a2) id⟩, fun _ => ⟨k4, k5⟩⟩
  · skip
    replace c1 := ti_eqN (a := r1) (b := (0 : Int32)) c1 rfl (show (0 : Int32).toInt = 0 from rfl)
    obtain ⟨-, hf⟩ := m_chkE hf
    cases hf
    try dsimp only
    rcases g1 with ⟨a1, a2, a3⟩ | ⟨a1, -⟩
    · have e : rgV V p = (p + 1, 0) := if_pos a2
      rw [e]
      exact ⟨fun j _ => i1 j, Or.inr rfl, ⟨fun _ => Or.inl a2, fun _ => rfl⟩, fun _ => ⟨a3, by rw [i1]; exact h4⟩⟩
    · omega
/-- and of the passed square -/
noncomputable def psV (V : Int → Int) (p : Int) : Int × Int := if V p = 45 then (p + 1, -1) else (p + 2, sqO (V p) (V (p + 1)))
theorem p_passed (h : PJ S0 S x0 vr bb V p m) (h5 : (zI S 5 bb).toInt = -1) (hp : p ≤ 900) (hf : f_X5_readPassed x0 bb S = some o) : (∀ j, j ≠ 5 → zI o.2 j bb = zI S j bb) ∧ (o.1.toInt = 0 ∨ o.1.toInt = 1) ∧ (o.1.toInt = 1 ↔ V p = 45 ∨ (psV V p).2 ≠ -1) ∧ (o.1.toInt = 1 → PJ S0 o.2 x0 vr bb V (psV V p).1 m ∧ (zI o.2 5 bb).toInt = (psV V p).2) := by
  have hf : f_X5_readPassed_0 x0 bb S = some o := hf
  have z45 : (45 : Int32).toInt = 45 := rfl
  have z1 : (-1 : Int32).toInt = -1 := rfl
  obtain ⟨P0, k5, k0, pb⟩ := pj_P h
  have hV := pj_V h
  obtain ⟨-, -, -, -, hp4, hp5, -⟩ := id h
  unfold f_X5_readPassed_0 at hf
  obtain ⟨-, hf⟩ := m_chkE hf
  obtain ⟨⟨r1, S1c⟩, h_r1, hf⟩ := m_calE hf
  dsimp only at hf
  obtain ⟨i1, g1⟩ := p_skipP h (by omega) h_r1
  dsimp only at i1 g1
  rw [z45] at g1
  rcases m_ifE hf with ⟨c1, hf⟩ | ⟨c1, hf⟩
  · skip
    replace c1 := ti_eqP (a := r1) (b := (0 : Int32)) c1 rfl (show (0 : Int32).toInt = 0 from rfl)
    obtain ⟨a2, a3⟩ : V p ≠ 45 ∧ S1c = S := by
      rcases g1 with ⟨a1, -⟩ | ⟨-, a2, a3⟩
      · omega
      · exact ⟨a2, a3⟩
    have P1 : zP S1c 0 x0 = some vr := by rw [a3]; exact P0
    have e4 : (zI S1c 1 x0).toInt = p := by rw [a3]; exact hp4
    have eV : rwC S1c vr = V := by rw [a3]; exact hV
    have J1 : PJ S0 S1c x0 vr bb V p m := by rw [a3]; exact h
    have e : psV V p = (p + 2, sqO (V p) (V (p + 1))) := if_neg a2
    obtain ⟨-, hf⟩ := m_chkE hf
    replace hf := m_calY hf P1
    obtain ⟨-, hf⟩ := m_chkE hf
    obtain ⟨-, hf⟩ := m_chkE hf
    obtain ⟨r3, h_r3, hf⟩ := m_calR hf (fun _ h => ro_X6_at h)
    dsimp only at hf
    have p_r3 := pc_X6_at h_r3
    dsimp only at p_r3
    rw [eV, e4] at p_r3
    obtain ⟨-, hf⟩ := m_chkE hf
    replace hf := m_calY hf P1
    obtain ⟨-, hf⟩ := m_chkE hf
    obtain ⟨v5, e_v5, hf⟩ := m_bndE hf
    have t_v5 : v5.toInt = (zI S1c 1 x0).toInt + 1 := ti_add e_v5 rfl (show (1 : Int32).toInt = 1 from rfl) (by omega) (by omega)
    obtain ⟨-, hf⟩ := m_chkE hf
    obtain ⟨r6, h_r6, hf⟩ := m_calR hf (fun _ h => ro_X6_at h)
    dsimp only at hf
    have p_r6 := pc_X6_at h_r6
    dsimp only at p_r6
    rw [eV, t_v5, e4] at p_r6
    obtain ⟨r7, h_r7, hf⟩ := m_calR hf (fun _ h => ro_X11_squareOf h)
    dsimp only at hf
    have p_r7 := pc_X11_squareOf h_r7
    dsimp only at p_r7
    rw [p_r3, p_r6] at p_r7
    obtain ⟨-, hf⟩ := m_chkE hf
    obtain ⟨S8, e_S8, hf⟩ := m_bndE hf
    obtain ⟨J8, q8, i8⟩ := pj_b J1 e_S8
    obtain ⟨-, hf⟩ := m_chkE hf
    obtain ⟨v9, e_v9, hf⟩ := m_bndE hf
    have t9 : v9.toInt = p + 2 := by
      have e48 : (zI S8 1 x0).toInt = p := J8.2.2.2.2.1
      have := ti_add (c := v9) (a := zI S8 1 x0) (b := 2) e_v9 rfl (show (2 : Int32).toInt = 2 from rfl) (by omega) (by omega)
      omega
    obtain ⟨-, hf⟩ := m_chkE hf
    obtain ⟨S10, e_S10, hf⟩ := m_bndE hf
    obtain ⟨J10, i10⟩ := pj_at (q := p + 2) J8 e_S10 t9 (by omega)
    have i5 : (zI S10 5 bb).toInt = sqO (V p) (V (p + 1)) := by rw [i10, q8]; exact p_r7
    obtain ⟨-, hf⟩ := m_chkE hf
    rcases m_ifE hf with ⟨c2, hf⟩ | ⟨c2, hf⟩
    · skip
      replace c2 := ti_eqP (a := (zI S10 5 bb)) (b := (-1 : Int32)) c2 rfl (show (-1 : Int32).toInt = -1 from rfl)
      unfold f_X5_readPassed_65 at hf
      obtain ⟨-, hf⟩ := m_chkE hf
      cases hf
      try dsimp only
      rw [e]
      exact ⟨fun j hj => (i10 j).trans ((i8 j hj).trans (i1 j)), Or.inl rfl, ⟨fun h => absurd h (by decide), fun h => by rcases h with h | h; exact absurd h a2; exact absurd (show sqO (V p) (V (p + 1)) = -1 by omega) h⟩, fun h => absurd h (by decide)⟩
    · skip
      replace c2 := ti_eqN (a := (zI S10 5 bb)) (b := (-1 : Int32)) c2 rfl (show (-1 : Int32).toInt = -1 from rfl)
      unfold f_X5_readPassed_65 at hf
      obtain ⟨-, hf⟩ := m_chkE hf
      cases hf
      try dsimp only
      rw [e]
      exact ⟨fun j hj => (i10 j).trans ((i8 j hj).trans (i1 j)), Or.inr rfl, ⟨fun _ => Or.inr (by show sqO (V p) (V (p + 1)) ≠ -1; omega), fun _ => rfl⟩, fun _ => ⟨J10, i5⟩⟩
  · skip
    replace c1 := ti_eqN (a := r1) (b := (0 : Int32)) c1 rfl (show (0 : Int32).toInt = 0 from rfl)
    obtain ⟨-, hf⟩ := m_chkE hf
    cases hf
    try dsimp only
    rcases g1 with ⟨a1, a2, a3⟩ | ⟨a1, -⟩
    · have e : psV V p = (p + 1, -1) := if_pos a2
      rw [e]
      exact ⟨fun j _ => i1 j, Or.inr rfl, ⟨fun _ => Or.inl a2, fun _ => rfl⟩, fun _ => ⟨a3, by rw [i1]; exact h5⟩⟩
    · omega
theorem nd3_b : 0 ≤ nd3 V p ∧ nd3 V p ≤ 3 := by
  unfold nd3
  split
  · split
    · split <;> omega
    · omega
  · omega
theorem nd3_e {k : Int} (h : 0 ≤ k ∧ k ≤ 3) (hd : ∀ j, 0 ≤ j → j < k → 48 ≤ V (p + j) ∧ V (p + j) ≤ 57) (he : k = 3 ∨ ¬ (48 ≤ V (p + k) ∧ V (p + k) ≤ 57)) : nd3 V p = k := by
  unfold nd3
  have e0 : p + 0 = p := by omega
  have hk : k = 0 ∨ k = 1 ∨ k = 2 ∨ k = 3 := by omega
  rcases hk with e | e | e | e <;> subst e
  · have := he.resolve_left (by decide)
    rw [e0] at this
    rw [if_neg this]
  · have h0 := hd 0 (by decide) (by decide)
    rw [e0] at h0
    rw [if_pos h0, if_neg (he.resolve_left (by decide))]
  · have h0 := hd 0 (by decide) (by decide)
    rw [e0] at h0
    rw [if_pos h0, if_pos (hd 1 (by decide) (by decide)), if_neg (he.resolve_left (by decide))]
  · have h0 := hd 0 (by decide) (by decide)
    rw [e0] at h0
    rw [if_pos h0, if_pos (hd 1 (by decide) (by decide)), if_pos (hd 2 (by decide) (by decide))]
theorem val3_s {k : Int} (h : 0 ≤ k ∧ k < 3) : val3 V p (k + 1) = 10 * val3 V p k + (V (p + k) - 48) := by
  unfold val3
  have e0 : p + 0 = p := by omega
  have hk : k = 0 ∨ k = 1 ∨ k = 2 := by omega
  rcases hk with e | e | e <;> subst e
  · rw [if_neg (by decide), if_pos (by decide), if_pos (by decide), e0]; omega
  · rw [if_neg (by decide), if_neg (by decide), if_pos (by decide), if_neg (by decide), if_pos (by decide)]
  · rw [if_neg (by decide), if_neg (by decide), if_neg (by decide), if_neg (by decide), if_neg (by decide), if_pos (by decide)]; omega
theorem val3_b {k : Int} (h : 0 ≤ k ∧ k ≤ 3) (hd : ∀ j, 0 ≤ j → j < k → 48 ≤ V (p + j) ∧ V (p + j) ≤ 57) : 0 ≤ val3 V p k ∧ val3 V p k ≤ 999 ∧ (k ≤ 2 → val3 V p k ≤ 99) := by
  have e0 : p + 0 = p := by omega
  unfold val3
  have hk : k = 0 ∨ k = 1 ∨ k = 2 ∨ k = 3 := by omega
  rcases hk with e | e | e | e <;> subst e
  · rw [if_pos rfl]; omega
  · have h0 := hd 0 (by decide) (by decide)
    rw [e0] at h0
    rw [if_neg (by decide), if_pos rfl]; omega
  · have h0 := hd 0 (by decide) (by decide)
    have h1 := hd 1 (by decide) (by decide)
    rw [e0] at h0
    rw [if_neg (by decide), if_neg (by decide), if_pos rfl]; omega
  · have h0 := hd 0 (by decide) (by decide)
    have h1 := hd 1 (by decide) (by decide)
    have h2 := hd 2 (by decide) (by decide)
    rw [e0] at h0
    rw [if_neg (by decide), if_neg (by decide), if_neg (by decide)]; omega
theorem nm_c (hp : 0 ≤ p ∧ p ≤ 900) (h1 : x1.toInt = p) : ∀ (n : Nat) (x2 : Int32) (S : ZS) (k : Int), (0 ≤ k ∧ k ≤ 3) → PJ S0 S x0 vr bb V (p + k) m → (∀ j, 0 ≤ j → j < k → 48 ≤ V (p + j) ∧ V (p + j) ≤ 57) → x2.toInt = val3 V p k → f_X5_readNumber_7 n x0 x1 x2 S = some o → (∀ j, zI o.2 j bb = zI S j bb) ∧ o.1.toInt = numC V p ∧ PJ S0 o.2 x0 vr bb V (p + nd3 V p) m := by
  intro n
  induction n with
  | zero => intro x2 S k _ _ _ _ hf; cases hf
  | succ n ih =>
    intro x2 S k hk hJ hd hx hf
    have hf : f_X5_readNumber_7s (f_X5_readNumber_7 n) x0 x1 x2 S = some o := hf
    obtain ⟨P0, k5, k0, pb⟩ := pj_P hJ
    have hV := pj_V hJ
    obtain ⟨-, -, -, ⟨-, hVb, -⟩, hp4, hp5, -⟩ := id hJ
    obtain ⟨vb1, vb2, vb3⟩ := val3_b hk hd
    have z0 : (0 : Int32).toInt = 0 := rfl
    have z1 : (-1 : Int32).toInt = -1 := rfl
    have fin : nd3 V p = k → f_X5_readNumber_67 x0 x1 x2 S = some o → (∀ j, zI o.2 j bb = zI S j bb) ∧ o.1.toInt = numC V p ∧ PJ S0 o.2 x0 vr bb V (p + nd3 V p) m := by
      intro en hf
      have eo : ∀ y : Int32, y.toInt = numC V p → (∀ j, zI S j bb = zI S j bb) ∧ y.toInt = numC V p ∧ PJ S0 S x0 vr bb V (p + nd3 V p) m := fun y hy => ⟨fun _ => rfl, hy, by rw [en]; exact hJ⟩
      have bad : (k = 0 ∨ (1 < k ∧ V p = 48)) → numC V p = -1 := fun h => by unfold numC; rw [en, if_pos h]
      have good : ¬ (k = 0 ∨ (1 < k ∧ V p = 48)) → numC V p = val3 V p k := fun h => by unfold numC; rw [en, if_neg h]
      unfold f_X5_readNumber_67 at hf
      obtain ⟨-, hf⟩ := m_chkE hf
      replace hf := m_calY hf P0
      obtain ⟨-, hf⟩ := m_chkE hf
      obtain ⟨r2, h2, hf⟩ := m_calR hf (fun _ h => ro_X6_at h)
      have p2 := pc_X6_at h2
      dsimp only at hf p2
      rw [hV, h1] at p2
      have last : ∀ t0 : Int32, (t0.toInt = 0 ∨ t0.toInt = 1) → (t0.toInt = 1 ↔ V p = 48 ∧ 1 < k) → f_X5_readNumber_95 x0 x1 x2 t0 S = some o → (∀ j, zI o.2 j bb = zI S j bb) ∧ o.1.toInt = numC V p ∧ PJ S0 o.2 x0 vr bb V (p + nd3 V p) m := by
        intro t0 ht ht2 hf
        unfold f_X5_readNumber_95 at hf
        obtain ⟨-, hf⟩ := m_chkE hf
        rcases m_ifE hf with ⟨c3, hf⟩ | ⟨c3, hf⟩
        · replace c3 := ti_eqP (a := zI S 1 x0) (b := x1) c3 rfl rfl
          unfold f_X5_readNumber_108 f_X5_readNumber_113 at hf
          cases hf
          exact eo _ (by rw [bad (Or.inl (by omega))]; rfl)
        · replace c3 := ti_eqN (a := zI S 1 x0) (b := x1) c3 rfl rfl
          rcases m_ifE hf with ⟨c4, hf⟩ | ⟨c4, hf⟩
          · replace c4 := ti_eqP (a := t0) (b := (0 : Int32)) c4 rfl rfl
            unfold f_X5_readNumber_113 at hf
            cases hf
            have ng : ¬ (k = 0 ∨ (1 < k ∧ V p = 48)) := fun g => by
              rcases g with g | g
              · omega
              · have := ht2.2 ⟨g.2, g.1⟩; omega
            exact eo _ (by rw [good ng]; exact hx)
          · replace c4 := ti_eqN (a := t0) (b := (0 : Int32)) c4 rfl rfl
            unfold f_X5_readNumber_108 f_X5_readNumber_113 at hf
            cases hf
            have := ht2.1 (by omega)
            exact eo _ (by rw [bad (Or.inr ⟨this.2, this.1⟩)]; rfl)
      rcases m_ifE hf with ⟨c2, hf⟩ | ⟨c2, hf⟩
      · replace c2 := ti_eqP (a := r2) (b := (48 : Int32)) c2 rfl (show (48 : Int32).toInt = 48 from rfl)
        obtain ⟨-, hf⟩ := m_chkE hf
        obtain ⟨v3, e3, hf⟩ := m_bndE hf
        have t3 : v3.toInt = x1.toInt + 1 := ti_add e3 rfl (show (1 : Int32).toInt = 1 from rfl) (by omega) (by omega)
        rcases m_ifE hf with ⟨c3, hf⟩ | ⟨c3, hf⟩
        · replace c3 := ti_leP (a := zI S 1 x0) (b := v3) c3 rfl rfl
          unfold f_X5_readNumber_94 at hf
          exact last 0 (Or.inl rfl) ⟨fun h => absurd h (by decide), fun h => by omega⟩ hf
        · replace c3 := ti_leN (a := zI S 1 x0) (b := v3) c3 rfl rfl
          exact last 1 (Or.inr rfl) ⟨fun _ => ⟨by omega, by omega⟩, fun _ => rfl⟩ hf
      · replace c2 := ti_eqN (a := r2) (b := (48 : Int32)) c2 rfl (show (48 : Int32).toInt = 48 from rfl)
        unfold f_X5_readNumber_94 at hf
        exact last 0 (Or.inl rfl) ⟨fun h => absurd h (by decide), fun h => by omega⟩ hf
    unfold f_X5_readNumber_7s at hf
    obtain ⟨-, hf⟩ := m_chkE hf
    obtain ⟨v1, e_v1, hf⟩ := m_bndE hf
    have t_v1 : v1.toInt = x1.toInt + 3 := ti_add e_v1 rfl (show (3 : Int32).toInt = 3 from rfl) (by omega) (by omega)
    rcases m_ifE hf with ⟨c1, hf⟩ | ⟨c1, hf⟩
    · skip
      replace c1 := ti_leP (a := v1) (b := (zI S 1 x0)) c1 rfl rfl
      exact fin (nd3_e hk hd (Or.inl (by omega))) hf
    · skip
      replace c1 := ti_leN (a := v1) (b := (zI S 1 x0)) c1 rfl rfl
      obtain ⟨-, hf⟩ := m_chkE hf
      replace hf := m_calY hf P0
      obtain ⟨-, hf⟩ := m_chkE hf
      obtain ⟨-, hf⟩ := m_chkE hf
      obtain ⟨r3, h_r3, hf⟩ := m_calR hf (fun _ h => ro_X6_at h)
      dsimp only at hf
      have p_r3 := pc_X6_at h_r3
      dsimp only at p_r3
      rw [hV, hp4] at p_r3
      have b3 := hVb (p + k)
      obtain ⟨r4, h_r4, hf⟩ := m_calR hf (fun _ h => ro_X11_isDigit h)
      dsimp only at hf
      have p_r4 := pc_X11_isDigit h_r4
      dsimp only at p_r4
      unfold isD at p_r4
      rw [p_r3] at p_r4
      rcases m_ifE hf with ⟨c2, hf⟩ | ⟨c2, hf⟩
      · skip
        replace c2 := ti_eqP (a := r4) (b := (0 : Int32)) c2 rfl (show (0 : Int32).toInt = 0 from rfl)
        exact fin (nd3_e hk hd (Or.inr (fun h => by have := p_r4.2.2 h; omega))) hf
      · skip
        replace c2 := ti_eqN (a := r4) (b := (0 : Int32)) c2 rfl (show (0 : Int32).toInt = 0 from rfl)
        obtain ⟨v5, e_v5, hf⟩ := m_bndE hf
        have t_v5 : v5.toInt = 10 * x2.toInt := ti_mul e_v5 (show (10 : Int32).toInt = 10 from rfl) rfl (by omega) (by omega)
        obtain ⟨-, hf⟩ := m_chkE hf
        replace hf := m_calY hf P0
        obtain ⟨-, hf⟩ := m_chkE hf
        obtain ⟨-, hf⟩ := m_chkE hf
        obtain ⟨r7, h_r7, hf⟩ := m_calR hf (fun _ h => ro_X6_at h)
        dsimp only at hf
        have p_r7 := pc_X6_at h_r7
        dsimp only at p_r7
        rw [hV, hp4] at p_r7
        have dk := p_r4.2.1 (by omega)
        obtain ⟨v8, e_v8, hf⟩ := m_bndE hf
        have t_v8 : v8.toInt = v5.toInt + r7.toInt := ti_add e_v8 rfl rfl (by omega) (by omega)
        obtain ⟨v9, e_v9, hf⟩ := m_bndE hf
        have t_v9 : v9.toInt = v8.toInt - 48 := ti_sub e_v9 rfl (show (48 : Int32).toInt = 48 from rfl) (by omega) (by omega)
        obtain ⟨-, hf⟩ := m_chkE hf
        obtain ⟨v10, e_v10, hf⟩ := m_bndE hf
        have t_v10 : v10.toInt = (zI S 1 x0).toInt + 1 := ti_add e_v10 rfl (show (1 : Int32).toInt = 1 from rfl) (by omega) (by omega)
        obtain ⟨-, hf⟩ := m_chkE hf
        obtain ⟨S11, e_S11, hf⟩ := m_bndE hf
        obtain ⟨J11, i11⟩ := pj_at (q := p + (k + 1)) hJ e_S11 (by omega) (by omega)
        obtain ⟨g1, g2, g3⟩ := ih v9 S11 (k + 1) (by omega) J11 (fun j j1 j2 => by
          by_cases e : j = k
          · rw [e]; exact dk
          · exact hd j j1 (by omega)) (by rw [val3_s (by omega)]; omega) hf
        exact ⟨fun j => (g1 j).trans (i11 j), g2, g3⟩
theorem p_number (h : PJ S0 S x0 vr bb V p m) (hp : p ≤ 900) (hf : f_X5_readNumber x0 S = some o) : (∀ j, zI o.2 j bb = zI S j bb) ∧ o.1.toInt = numC V p ∧ PJ S0 o.2 x0 vr bb V (p + nd3 V p) m := by
  have hf : f_X5_readNumber_0 x0 S = some o := hf
  obtain ⟨-, -, -, -, hp4, hp5, -⟩ := id h
  unfold f_X5_readNumber_0 at hf
  obtain ⟨-, hf⟩ := m_chkE hf
  have e : p + 0 = p := by omega
  exact nm_c (by omega) hp4 mFuel 0 S 0 (by decide) (by rw [e]; exact h) (fun j a b => by omega) rfl hf
end PJR
end
section
section SND
variable {S : ZS} {bb : Nat} {m : Int → Int} {o : Int32 × ZS} {sd rt ps ko : Int}
theorem cnt_ku {w : Int} (h : cnt (fun s => m (s : Int) = 6 + 8 * w) 64 = 1) : ∃ k, KU m w k := by
  obtain ⟨s, h1, h2, -⟩ := cnt_sur (P := fun s => m (s : Int) = 6 + 8 * w) (k := 0) (N := 64) (by omega)
  refine ⟨(s : Int), by omega, by omega, h2, fun q q1 q2 q3 => ?_⟩
  have e := cnt_1 (n := q.toNat) (k := s) h (show m ((q.toNat : Nat) : Int) = 6 + 8 * w by rw [Int.toNat_of_nonneg q1]; exact q3) h2 (by omega) h1
  omega
theorem ku_cnt {w k : Int} (h : KU m w k) : cnt (fun s => m (s : Int) = 6 + 8 * w) 64 = 1 := by
  obtain ⟨h1, h2, h3, h4⟩ := h
  have hk : (fun s : Nat => m (s : Int) = 6 + 8 * w) k.toNat := by
    show m ((k.toNat : Nat) : Int) = 6 + 8 * w
    rw [Int.toNat_of_nonneg h1]; exact h3
  have e1 : cnt (fun s => m (s : Int) = 6 + 8 * w) k.toNat = 0 := cnt_0 (fun j hj hp => by
    have := h4 (j : Int) (by omega) (by omega) hp
    omega)
  have e2 : cnt (fun s => m (s : Int) = 6 + 8 * w) 64 = cnt (fun s => m (s : Int) = 6 + 8 * w) (k.toNat + 1) := cnt_gap (by omega) (fun j j1 j2 hp => by
    have := h4 (j : Int) (by omega) (by omega) hp
    omega)
  rw [e2, cnt_y hk, e1]
theorem sm_6 (hT : ZT S) (kb : zK S bb = 0) (pb : zP S 0 bb = some (bb + 1)) (hm : mCb S bb = m) (hM : MBd m) (hs : (zI S 3 bb).toInt = sd) (hs2 : sd = 0 ∨ sd = 1) (hko : ko = if 1 - sd = 0 then (zI S 1 bb).toInt else (zI S 2 bb).toInt) : ∀ (n : Nat) (x1 x2 x3 : Int32), (0 ≤ x3.toInt ∧ x3.toInt ≤ 64) → x1.toInt = ((cnt (fun s => m (s : Int) = 6) x3.toInt.toNat : Nat) : Int) → x2.toInt = ((cnt (fun s => m (s : Int) = 14) x3.toInt.toNat : Nat) : Int) → (∀ s, 0 ≤ s → s < x3.toInt → m s % 8 = 1 → 8 ≤ s ∧ s < 56) → f_X5_hasSoundMen_6 n bb x1 x2 x3 S = some o → (o.1.toInt = 0 ∨ o.1.toInt = 1) ∧ (o.1.toInt = 1 ↔ SMn m sd ko) := by
  intro n
  have z0 : (0 : Int32).toInt = 0 := rfl
  have z1 : (1 : Int32).toInt = 1 := rfl
  induction n with
  | zero => intro x1 x2 x3 _ _ _ _ hf; cases hf
  | succ n ih =>
    intro x1 x2 x3 h3 h1 h2 hnp hf
    have hf : f_X5_hasSoundMen_6s (f_X5_hasSoundMen_6 n) bb x1 x2 x3 S = some o := hf
    have cl1 : cnt (fun s => m (s : Int) = 6) x3.toInt.toNat ≤ x3.toInt.toNat := cnt_le
    have cl2 : cnt (fun s => m (s : Int) = 14) x3.toInt.toNat ≤ x3.toInt.toNat := cnt_le
    have en : ((x3.toInt.toNat : Nat) : Int) = x3.toInt := by omega
    have step : ∀ (t0 v1 : Int32), x3.toInt < 64 → v1.toInt = ((cnt (fun s => m (s : Int) = 6) (x3.toInt.toNat + 1) : Nat) : Int) → (t0.toInt = 0 ∨ t0.toInt = 1) → (t0.toInt = 1 ↔ m x3.toInt = 14) → f_X5_hasSoundMen_48 (f_X5_hasSoundMen_6 n) bb v1 x3 t0 x2 S = some o → (o.1.toInt = 0 ∨ o.1.toInt = 1) ∧ (o.1.toInt = 1 ↔ SMn m sd ko) := by
      intro t0 w1 hlt hw1 ht ht2 hf
      unfold f_X5_hasSoundMen_48 at hf
      obtain ⟨v1, e1, hf⟩ := m_bndE hf
      have t1 : v1.toInt = x2.toInt + t0.toInt := ti_add e1 rfl rfl (by omega) (by omega)
      have hv1 : v1.toInt = ((cnt (fun s => m (s : Int) = 14) (x3.toInt.toNat + 1) : Nat) : Int) := by
        by_cases h : m x3.toInt = 14
        · rw [cnt_y (show m ((x3.toInt.toNat : Nat) : Int) = 14 by rw [en]; exact h), t1, h2, ht2.2 h]; omega
        · have : t0.toInt = 0 := ht.resolve_right (fun g => h (ht2.1 g))
          rw [cnt_n (show ¬ m ((x3.toInt.toNat : Nat) : Int) = 14 by rw [en]; exact h), t1, h2, this]; omega
      obtain ⟨-, hf⟩ := m_chkE hf
      obtain ⟨r2, h2', hf⟩ := m_calR hf (fun _ h => ro_X0_kindAt h)
      obtain ⟨-, b2, q2⟩ := ok_of (x_f_X0_kindAt hT kb (by omega) (by rw [hm]; exact hM)) h2'
      dsimp only at hf b2 q2
      rw [hm] at q2
      have bad : m x3.toInt % 8 = 1 → ¬ (8 ≤ x3.toInt ∧ x3.toInt < 56) → f_X5_hasSoundMen_71 S = some o → (o.1.toInt = 0 ∨ o.1.toInt = 1) ∧ (o.1.toInt = 1 ↔ SMn m sd ko) := fun hp hn hf => by
        unfold f_X5_hasSoundMen_71 at hf
        obtain ⟨-, hf⟩ := m_chkE hf
        cases hf
        exact ⟨Or.inl rfl, fun h => absurd (show (0 : Int32).toInt = 1 from h) (by decide), fun h => absurd (h.1 x3.toInt h3.1 hlt hp) hn⟩
      have go : (m x3.toInt % 8 = 1 → 8 ≤ x3.toInt ∧ x3.toInt < 56) → f_X5_hasSoundMen_73 (f_X5_hasSoundMen_6 n) bb w1 v1 x3 S = some o → (o.1.toInt = 0 ∨ o.1.toInt = 1) ∧ (o.1.toInt = 1 ↔ SMn m sd ko) := fun hp hf => by
        unfold f_X5_hasSoundMen_73 at hf
        obtain ⟨v9, e9, hf⟩ := m_bndE hf
        have t9 : v9.toInt = x3.toInt + 1 := ti_add e9 rfl (show (1 : Int32).toInt = 1 from rfl) (by omega) (by omega)
        have e10 : v9.toInt.toNat = x3.toInt.toNat + 1 := by omega
        refine ih w1 v1 v9 (by omega) (by rw [e10]; exact hw1) (by rw [e10]; exact hv1) (fun s s0 s1 s2 => ?_) hf
        by_cases e : s = x3.toInt
        · rw [e] at s2 ⊢; exact hp s2
        · exact hnp s s0 (by omega) s2
      rcases m_ifE hf with ⟨c1, hf⟩ | ⟨c1, hf⟩
      · replace c1 := ti_eqP (a := r2) (b := (1 : Int32)) c1 rfl rfl
        rcases m_ifE hf with ⟨c2, hf⟩ | ⟨c2, hf⟩
        · replace c2 := ti_ltP (a := x3) (b := (8 : Int32)) c2 rfl (show (8 : Int32).toInt = 8 from rfl)
          exact bad (by omega) (by omega) hf
        · replace c2 := ti_ltN (a := x3) (b := (8 : Int32)) c2 rfl (show (8 : Int32).toInt = 8 from rfl)
          rcases m_ifE hf with ⟨c3, hf⟩ | ⟨c3, hf⟩
          · replace c3 := ti_ltP (a := x3) (b := (56 : Int32)) c3 rfl (show (56 : Int32).toInt = 56 from rfl)
            exact go (fun _ => by omega) hf
          · replace c3 := ti_ltN (a := x3) (b := (56 : Int32)) c3 rfl (show (56 : Int32).toInt = 56 from rfl)
            exact bad (by omega) (by omega) hf
      · replace c1 := ti_eqN (a := r2) (b := (1 : Int32)) c1 rfl rfl
        exact go (fun h => by omega) hf
    have mid : ∀ t0 : Int32, x3.toInt < 64 → (t0.toInt = 0 ∨ t0.toInt = 1) → (t0.toInt = 1 ↔ m x3.toInt = 6) → f_X5_hasSoundMen_29 (f_X5_hasSoundMen_6 n) bb x2 x3 t0 x1 S = some o → (o.1.toInt = 0 ∨ o.1.toInt = 1) ∧ (o.1.toInt = 1 ↔ SMn m sd ko) := by
      intro t0 hlt ht ht2 hf
      unfold f_X5_hasSoundMen_29 at hf
      obtain ⟨v1, e1, hf⟩ := m_bndE hf
      have t1 : v1.toInt = x1.toInt + t0.toInt := ti_add e1 rfl rfl (by omega) (by omega)
      have hv1 : v1.toInt = ((cnt (fun s => m (s : Int) = 6) (x3.toInt.toNat + 1) : Nat) : Int) := by
        by_cases h : m x3.toInt = 6
        · rw [cnt_y (show m ((x3.toInt.toNat : Nat) : Int) = 6 by rw [en]; exact h), t1, h1, ht2.2 h]; omega
        · have : t0.toInt = 0 := ht.resolve_right (fun g => h (ht2.1 g))
          rw [cnt_n (show ¬ m ((x3.toInt.toNat : Nat) : Int) = 6 by rw [en]; exact h), t1, h1, this]; omega
      obtain ⟨-, hf⟩ := m_chkE hf
      replace hf := m_calY hf pb
      obtain ⟨-, hf⟩ := m_chkE hf
      obtain ⟨-, hf⟩ := m_chkE hf
      obtain ⟨v3, e3, hf⟩ := m_bndE hf
      have q3 := mB_at (b := bb) pb e3 (by omega) (by omega)
      rw [hm] at q3
      rcases m_ifE hf with ⟨c, hf⟩ | ⟨c, hf⟩
      · replace c := ti_eqP (a := v3) (b := (14 : Int32)) c rfl (show (14 : Int32).toInt = 14 from rfl)
        exact step 1 v1 hlt hv1 (Or.inr rfl) ⟨fun _ => by omega, fun _ => rfl⟩ hf
      · replace c := ti_eqN (a := v3) (b := (14 : Int32)) c rfl (show (14 : Int32).toInt = 14 from rfl)
        exact step 0 v1 hlt hv1 (Or.inl rfl) ⟨fun h => absurd h (by decide), fun h => by omega⟩ hf
    have e64 : 64 ≤ x3.toInt → x3.toInt.toNat = 64 := fun h => by omega
    unfold f_X5_hasSoundMen_6s at hf
    rcases m_ifE hf with ⟨c1, hf⟩ | ⟨c1, hf⟩
    · skip
      replace c1 := ti_leP (a := (64 : Int32)) (b := x3) c1 (show (64 : Int32).toInt = 64 from rfl) rfl
      rw [e64 (by omega)] at h1 h2
      have hnp2 : NPw m := fun s s0 s1 s2 => hnp s s0 (by omega) s2
      rcases m_ifE hf with ⟨c2, hf⟩ | ⟨c2, hf⟩
      · skip
        replace c2 := ti_eqP (a := x1) (b := (1 : Int32)) c2 rfl (show (1 : Int32).toInt = 1 from rfl)
        rcases m_ifE hf with ⟨c3, hf⟩ | ⟨c3, hf⟩
        · skip
          replace c3 := ti_eqP (a := x2) (b := (1 : Int32)) c3 rfl (show (1 : Int32).toInt = 1 from rfl)
          obtain ⟨-, hf⟩ := m_chkE hf
          obtain ⟨v1, e_v1, hf⟩ := m_bndE hf
          have t_v1 : v1.toInt = 1 - (zI S 3 bb).toInt := ti_sub e_v1 (show (1 : Int32).toInt = 1 from rfl) rfl (by omega) (by omega)
          obtain ⟨-, hf⟩ := m_chkE hf
          obtain ⟨r2, h_r2, hf⟩ := m_calR hf (fun _ h => ro_X0_kingOf h)
          dsimp only at hf
          obtain ⟨-, b2, q2⟩ := ok_of (x_f_X0_kingOf (x1 := v1) hT kb) h_r2
          dsimp only at b2 q2
          rw [t_v1, hs, ← hko] at q2
          obtain ⟨-, hf⟩ := m_chkE hf
          obtain ⟨-, hf⟩ := m_chkE hf
          obtain ⟨r3, h_r3, hf⟩ := m_calR hf (fun _ h => ro_X0_attacked h)
          dsimp only at hf
          obtain ⟨-, b3, q3⟩ := ok_of (y_f_X0_attacked hT kb b2 (by omega) (by rw [hm]; exact hM)) h_r3
          dsimp only at b3 q3
          rw [hm, hs, q2] at q3
          rcases m_ifE hf with ⟨c4, hf⟩ | ⟨c4, hf⟩
          · skip
            replace c4 := ti_eqP (a := r3) (b := (0 : Int32)) c4 rfl (show (0 : Int32).toInt = 0 from rfl)
            unfold f_X5_hasSoundMen_115 at hf
            obtain ⟨-, hf⟩ := m_chkE hf
            cases hf
            try dsimp only
            exact ⟨Or.inr rfl, fun _ => ⟨hnp2, by omega, by omega, fun h => by have := q3.2 h; omega⟩, fun _ => rfl⟩
          · skip
            replace c4 := ti_eqN (a := r3) (b := (0 : Int32)) c4 rfl (show (0 : Int32).toInt = 0 from rfl)
            unfold f_X5_hasSoundMen_114 at hf
            unfold f_X5_hasSoundMen_115 at hf
            obtain ⟨-, hf⟩ := m_chkE hf
            cases hf
            try dsimp only
            exact ⟨Or.inl rfl, fun h => absurd h (by decide), fun h => absurd (q3.1 (by omega)) h.2.2.2⟩
        · skip
          replace c3 := ti_eqN (a := x2) (b := (1 : Int32)) c3 rfl (show (1 : Int32).toInt = 1 from rfl)
          unfold f_X5_hasSoundMen_114 at hf
          unfold f_X5_hasSoundMen_115 at hf
          obtain ⟨-, hf⟩ := m_chkE hf
          cases hf
          try dsimp only
          exact ⟨Or.inl rfl, fun h => absurd h (by decide), fun h => by have := h.2.2.1; omega⟩
      · skip
        replace c2 := ti_eqN (a := x1) (b := (1 : Int32)) c2 rfl (show (1 : Int32).toInt = 1 from rfl)
        unfold f_X5_hasSoundMen_114 at hf
        unfold f_X5_hasSoundMen_115 at hf
        obtain ⟨-, hf⟩ := m_chkE hf
        cases hf
        try dsimp only
        exact ⟨Or.inl rfl, fun h => absurd h (by decide), fun h => by have := h.2.1; omega⟩
    · skip
      replace c1 := ti_leN (a := (64 : Int32)) (b := x3) c1 (show (64 : Int32).toInt = 64 from rfl) rfl
      obtain ⟨-, hf⟩ := m_chkE hf
      replace hf := m_calY hf pb
      obtain ⟨-, hf⟩ := m_chkE hf
      obtain ⟨-, hf⟩ := m_chkE hf
      obtain ⟨v5, e_v5, hf⟩ := m_bndE hf
      have q5 := mB_at (b := bb) pb e_v5 (by omega) (by omega)
      rw [hm] at q5
      rcases m_ifE hf with ⟨c5, hf⟩ | ⟨c5, hf⟩
      · skip
        replace c5 := ti_eqP (a := v5) (b := (6 : Int32)) c5 rfl (show (6 : Int32).toInt = 6 from rfl)
        exact mid 1 (by omega) (Or.inr rfl) ⟨fun _ => by omega, fun _ => rfl⟩ hf
      · skip
        replace c5 := ti_eqN (a := v5) (b := (6 : Int32)) c5 rfl (show (6 : Int32).toInt = 6 from rfl)
        exact mid 0 (by omega) (Or.inl rfl) ⟨fun h => absurd h (by decide), fun h => by omega⟩ hf
noncomputable def rOk (m : Int → Int) (rt i : Int) : Prop := rb rt i → m (4 + 56 * (i / 2)) = 6 + 8 * (i / 2) ∧ m (56 * (i / 2) + (if i % 2 = 0 then 7 else 0)) = 4 + 8 * (i / 2)
theorem sr_2 (kb : zK S bb = 0) (pb : zP S 0 bb = some (bb + 1)) (hm : mCb S bb = m) (hr : (zI S 4 bb).toInt = rt) (hr2 : 0 ≤ rt ∧ rt ≤ 15) : ∀ (n : Nat) (x1 : Int32), (0 ≤ x1.toInt ∧ x1.toInt ≤ 4) → (∀ i, 0 ≤ i → i < x1.toInt → rOk m rt i) → f_X5_hasSoundRights_2 n bb x1 S = some o → (o.1.toInt = 0 ∨ o.1.toInt = 1) ∧ (o.1.toInt = 1 ↔ RTo m rt) := by
  intro n
  induction n with
  | zero => intro x1 _ _ hf; cases hf
  | succ n ih =>
    intro x1 h1 hp hf
    have hf : f_X5_hasSoundRights_2s (f_X5_hasSoundRights_2 n) bb x1 S = some o := hf
    have hl2 : ((strL 2).length : Int) = 4 := rfl
    have no : ¬ rOk m rt x1.toInt → x1.toInt ≤ 3 → f_X5_hasSoundRights_90 S = some o → (o.1.toInt = 0 ∨ o.1.toInt = 1) ∧ (o.1.toInt = 1 ↔ RTo m rt) := fun hn hle hf => by
      unfold f_X5_hasSoundRights_90 at hf
      obtain ⟨-, hf⟩ := m_chkE hf
      cases hf
      exact ⟨Or.inl rfl, fun h => absurd (show (0 : Int32).toInt = 1 from h) (by decide), fun h => absurd (h x1.toInt h1.1 hle) hn⟩
    have ye : rOk m rt x1.toInt → x1.toInt ≤ 3 → f_X5_hasSoundRights_92 (f_X5_hasSoundRights_2 n) bb x1 S = some o → (o.1.toInt = 0 ∨ o.1.toInt = 1) ∧ (o.1.toInt = 1 ↔ RTo m rt) := fun hy hle hf => by
      unfold f_X5_hasSoundRights_92 at hf
      obtain ⟨v1, e1, hf⟩ := m_bndE hf
      have t1 : v1.toInt = x1.toInt + 1 := ti_add e1 rfl (show (1 : Int32).toInt = 1 from rfl) (by omega) (by omega)
      refine ih v1 (by omega) (fun i i0 i1 => ?_) hf
      by_cases e : i = x1.toInt
      · rw [e]; exact hy
      · exact hp i i0 (by omega)
    have run : ∀ x2 x3 t0 : Int32, x1.toInt ≤ 3 → x2.toInt = 8 * (x1.toInt / 2) → x3.toInt = 4 + 56 * (x1.toInt / 2) → t0.toInt = 56 * (x1.toInt / 2) + (if x1.toInt % 2 = 0 then 7 else 0) → f_X5_hasSoundRights_50 (f_X5_hasSoundRights_2 n) bb x1 x2 x3 t0 S = some o → (o.1.toInt = 0 ∨ o.1.toInt = 1) ∧ (o.1.toInt = 1 ↔ RTo m rt) := by
      intro x2 x3 t0 hle h2 h3 h0 hf
      have b0 : 0 ≤ t0.toInt ∧ t0.toInt < 64 := by rw [h0]; split <;> omega
      unfold f_X5_hasSoundRights_50 at hf
      obtain ⟨-, hf⟩ := m_chkE hf
      obtain ⟨v1, e1, hf⟩ := m_bndE hf
      obtain ⟨v2, e2, hf⟩ := m_bndE hf
      have q2 := sh_rb e1 e2 (by rw [hr]; exact hr2) (by omega)
      rw [hr] at q2
      rcases m_ifE hf with ⟨c1, hf⟩ | ⟨c1, hf⟩
      · have yb := q2.1 (by rw [c1]; rfl)
        obtain ⟨-, hf⟩ := m_chkE hf
        replace hf := m_calY hf pb
        obtain ⟨-, hf⟩ := m_chkE hf
        obtain ⟨-, hf⟩ := m_chkE hf
        obtain ⟨v4, e4, hf⟩ := m_bndE hf
        have q4 := mB_at (b := bb) pb e4 (by omega) (by omega)
        rw [hm, h3] at q4
        obtain ⟨v5, e5, hf⟩ := m_bndE hf
        have t5 : v5.toInt = 6 + x2.toInt := ti_add e5 (show (6 : Int32).toInt = 6 from rfl) rfl (by omega) (by omega)
        rcases m_ifE hf with ⟨c2, hf⟩ | ⟨c2, hf⟩
        · replace c2 := ti_eqP (a := v4) (b := v5) c2 rfl rfl
          obtain ⟨-, hf⟩ := m_chkE hf
          replace hf := m_calY hf pb
          obtain ⟨-, hf⟩ := m_chkE hf
          obtain ⟨-, hf⟩ := m_chkE hf
          obtain ⟨v7, e7, hf⟩ := m_bndE hf
          have q7 := mB_at (b := bb) pb e7 b0.1 b0.2
          rw [hm, h0] at q7
          obtain ⟨v8, e8, hf⟩ := m_bndE hf
          have t8 : v8.toInt = 4 + x2.toInt := ti_add e8 (show (4 : Int32).toInt = 4 from rfl) rfl (by omega) (by omega)
          rcases m_ifE hf with ⟨c3, hf⟩ | ⟨c3, hf⟩
          · replace c3 := ti_eqP (a := v7) (b := v8) c3 rfl rfl
            exact ye (fun _ => ⟨by omega, by omega⟩) hle hf
          · replace c3 := ti_eqN (a := v7) (b := v8) c3 rfl rfl
            exact no (fun h => by have := (h yb).2; omega) hle hf
        · replace c2 := ti_eqN (a := v4) (b := v5) c2 rfl rfl
          exact no (fun h => by have := (h yb).1; omega) hle hf
      · exact ye (fun h => absurd (Int32.toInt_inj.1 (q2.2 h)) c1) hle hf
    have mid : ∀ x2 : Int32, x1.toInt ≤ 3 → x2.toInt = 8 * (x1.toInt / 2) → f_X5_hasSoundRights_22 (f_X5_hasSoundRights_2 n) bb x1 x2 S = some o → (o.1.toInt = 0 ∨ o.1.toInt = 1) ∧ (o.1.toInt = 1 ↔ RTo m rt) := by
      intro x2 hle h2 hf
      have fin : ∀ t0 : Int32, t0.toInt = 4 + 56 * (x1.toInt / 2) → f_X5_hasSoundRights_34 (f_X5_hasSoundRights_2 n) bb x1 x2 t0 S = some o → (o.1.toInt = 0 ∨ o.1.toInt = 1) ∧ (o.1.toInt = 1 ↔ RTo m rt) := by
        intro t0 ht hf
        unfold f_X5_hasSoundRights_34 at hf
        obtain ⟨v1, e1, hf⟩ := m_bndE hf
        have t1 : v1.toInt = x1.toInt % 2 := ti_rem e1 rfl (show (2 : Int32).toInt = 2 from rfl) (by omega) (by decide)
        rcases m_ifE hf with ⟨c1, hf⟩ | ⟨c1, hf⟩
        · replace c1 := ti_eqP (a := v1) (b := (0 : Int32)) c1 rfl (show (0 : Int32).toInt = 0 from rfl)
          obtain ⟨v3, e3, hf⟩ := m_bndE hf
          have t3 : v3.toInt = t0.toInt + 3 := ti_add e3 rfl (show (3 : Int32).toInt = 3 from rfl) (by omega) (by omega)
          exact run x2 t0 v3 hle h2 ht (by rw [if_pos (by omega)]; omega) hf
        · replace c1 := ti_eqN (a := v1) (b := (0 : Int32)) c1 rfl (show (0 : Int32).toInt = 0 from rfl)
          obtain ⟨v2, e2, hf⟩ := m_bndE hf
          have t2 : v2.toInt = t0.toInt - 4 := ti_sub e2 rfl (show (4 : Int32).toInt = 4 from rfl) (by omega) (by omega)
          exact run x2 t0 v2 hle h2 ht (by rw [if_neg (by omega)]; omega) hf
      unfold f_X5_hasSoundRights_22 at hf
      rcases m_ifE hf with ⟨c1, hf⟩ | ⟨c1, hf⟩
      · replace c1 := ti_leP (a := (2 : Int32)) (b := x1) c1 (show (2 : Int32).toInt = 2 from rfl) rfl
        exact fin 60 (by have z : (60 : Int32).toInt = 60 := rfl; omega) hf
      · replace c1 := ti_leN (a := (2 : Int32)) (b := x1) c1 (show (2 : Int32).toInt = 2 from rfl) rfl
        exact fin 4 (by have z : (4 : Int32).toInt = 4 := rfl; omega) hf
    have z8 : (8 : Int32).toInt = 8 := rfl
    have z0 : (0 : Int32).toInt = 0 := rfl
    unfold f_X5_hasSoundRights_2s at hf
    obtain ⟨-, hf⟩ := m_chkE hf
    obtain ⟨r1, h_r1, hf⟩ := m_calR hf (fun _ h => ro_J0_length_8abf5 h)
    dsimp only at hf
    have p_r1 := pc_J0_length_8abf5 h_r1
    dsimp only at p_r1
    have q1 := p_r1.2
    rw [hl2] at q1
    rcases m_ifE hf with ⟨c1, hf⟩ | ⟨c1, hf⟩
    · skip
      replace c1 := ti_leP (a := r1) (b := x1) c1 rfl rfl
      obtain ⟨-, hf⟩ := m_chkE hf
      cases hf
      try dsimp only
      exact ⟨Or.inr rfl, fun _ i i0 i3 => hp i i0 (by omega), fun _ => rfl⟩
    · skip
      replace c1 := ti_leN (a := r1) (b := x1) c1 rfl rfl
      rcases m_ifE hf with ⟨c2, hf⟩ | ⟨c2, hf⟩
      · skip
        replace c2 := ti_leP (a := (2 : Int32)) (b := x1) c2 (show (2 : Int32).toInt = 2 from rfl) rfl
        exact mid 8 (by omega) (by omega) hf
      · skip
        replace c2 := ti_leN (a := (2 : Int32)) (b := x1) c2 (show (2 : Int32).toInt = 2 from rfl) rfl
        exact mid 0 (by omega) (by omega) hf
theorem p_soundPassed (hT : ZT S) (kb : zK S bb = 0) (pb : zP S 0 bb = some (bb + 1)) (hm : mCb S bb = m) (hs : (zI S 3 bb).toInt = sd) (hs2 : sd = 0 ∨ sd = 1) (hps : (zI S 5 bb).toInt = ps) (hps2 : -1 ≤ ps ∧ ps ≤ 63) (hf : f_X5_hasSoundPassed bb S = some o) : (o.1.toInt = 0 ∨ o.1.toInt = 1) ∧ (o.1.toInt = 1 ↔ SPs m sd ps) := by
  have hf : f_X5_hasSoundPassed_0 bb S = some o := hf
  have z1 : (-1 : Int32).toInt = -1 := rfl
  have z0 : (0 : Int32).toInt = 0 := rfl
  have no : ∀ {P : Prop}, ¬ SPs m sd ps → (f_X5_hasSoundPassed_49 S = some o ∨ f_X5_hasSoundPassed_112 S = some o) → (o.1.toInt = 0 ∨ o.1.toInt = 1) ∧ (o.1.toInt = 1 ↔ SPs m sd ps) := by
    intro P hn hf
    rcases hf with hf | hf
    · unfold f_X5_hasSoundPassed_49 at hf
      obtain ⟨-, hf⟩ := m_chkE hf
      cases hf
      exact ⟨Or.inl rfl, fun h => absurd (show (0 : Int32).toInt = 1 from h) (by decide), fun h => absurd h hn⟩
    · unfold f_X5_hasSoundPassed_112 f_X5_hasSoundPassed_113 at hf
      obtain ⟨-, hf⟩ := m_chkE hf
      cases hf
      exact ⟨Or.inl rfl, fun h => absurd (show (0 : Int32).toInt = 1 from h) (by decide), fun h => absurd h hn⟩
  have last : ∀ t0 : Int32, ps ≠ -1 → ps / 8 = 5 - 3 * sd → m ps = 0 → t0.toInt = 16 * sd - 8 → f_X5_hasSoundPassed_62 bb (zI S 5 bb) t0 S = some o → (o.1.toInt = 0 ∨ o.1.toInt = 1) ∧ (o.1.toInt = 1 ↔ SPs m sd ps) := by
    intro t0 hn1 hrk hm0 ht hf
    unfold f_X5_hasSoundPassed_62 at hf
    obtain ⟨-, hf⟩ := m_chkE hf
    replace hf := m_calY hf pb
    obtain ⟨v2, e2, hf⟩ := m_bndE hf
    have t2 : v2.toInt = ps + (16 * sd - 8) := by
      have := ti_add (c := v2) (a := zI S 5 bb) (b := t0) e2 rfl rfl (by omega) (by omega)
      omega
    obtain ⟨-, hf⟩ := m_chkE hf
    obtain ⟨-, hf⟩ := m_chkE hf
    obtain ⟨v3, e3, hf⟩ := m_bndE hf
    have q3 := mB_at (b := bb) pb e3 (by omega) (by omega)
    rw [hm, t2, show ps + (16 * sd - 8) = ps - (8 - 16 * sd) by omega] at q3
    obtain ⟨-, hf⟩ := m_chkE hf
    obtain ⟨v4, e4, hf⟩ := m_bndE hf
    obtain ⟨v5, e5, hf⟩ := m_bndE hf
    obtain ⟨v6, e6, hf⟩ := m_bndE hf
    have t4 : v4.toInt = 1 - sd := ti_sub e4 (show (1 : Int32).toInt = 1 from rfl) hs (by omega) (by omega)
    have t5 : v5.toInt = 8 * v4.toInt := ti_mul e5 (show (8 : Int32).toInt = 8 from rfl) rfl (by omega) (by omega)
    have t6 : v6.toInt = 1 + v5.toInt := ti_add e6 (show (1 : Int32).toInt = 1 from rfl) rfl (by omega) (by omega)
    rcases m_ifE hf with ⟨c3, hf⟩ | ⟨c3, hf⟩
    · replace c3 := ti_eqP (a := v3) (b := v6) c3 rfl rfl
      obtain ⟨-, hf⟩ := m_chkE hf
      replace hf := m_calY hf pb
      obtain ⟨v8, e8, hf⟩ := m_bndE hf
      have t8 : v8.toInt = ps - (16 * sd - 8) := by
        have := ti_sub (c := v8) (a := zI S 5 bb) (b := t0) e8 rfl rfl (by omega) (by omega)
        omega
      obtain ⟨-, hf⟩ := m_chkE hf
      obtain ⟨-, hf⟩ := m_chkE hf
      obtain ⟨v9, e9, hf⟩ := m_bndE hf
      have q9 := mB_at (b := bb) pb e9 (by omega) (by omega)
      rw [hm, t8, show ps - (16 * sd - 8) = ps + (8 - 16 * sd) by omega] at q9
      rcases m_ifE hf with ⟨c4, hf⟩ | ⟨c4, hf⟩
      · replace c4 := ti_eqP (a := v9) (b := (0 : Int32)) c4 rfl rfl
        obtain ⟨-, hf⟩ := m_chkE hf
        obtain ⟨-, hf⟩ := m_chkE hf
        obtain ⟨r10, h10, hf⟩ := m_calR hf (fun _ h => ro_X0_pawnAttacks h)
        obtain ⟨-, b10, q10⟩ := ok_of (y_f_X0_pawnAttacks (x2 := zI S 3 bb) hT kb (by omega) (by omega)) h10
        dsimp only at hf b10 q10
        rw [hm, hps, hs] at q10
        rcases m_ifE hf with ⟨c5, hf⟩ | ⟨c5, hf⟩
        · replace c5 := ti_eqP (a := r10) (b := (0 : Int32)) c5 rfl rfl
          refine no (P := True) (fun h => ?_) (Or.inr hf)
          rcases h with h | h
          · exact hn1 h
          · have := q10.2 h.2.2.2.2; omega
        · replace c5 := ti_eqN (a := r10) (b := (0 : Int32)) c5 rfl rfl
          unfold f_X5_hasSoundPassed_113 at hf
          obtain ⟨-, hf⟩ := m_chkE hf
          cases hf
          exact ⟨Or.inr rfl, fun _ => Or.inr ⟨hrk, hm0, by omega, by omega, q10.1 (by omega)⟩, fun _ => rfl⟩
      · replace c4 := ti_eqN (a := v9) (b := (0 : Int32)) c4 rfl rfl
        refine no (P := True) (fun h => ?_) (Or.inr hf)
        rcases h with h | h
        · exact hn1 h
        · have := h.2.2.2.1; omega
    · replace c3 := ti_eqN (a := v3) (b := v6) c3 rfl rfl
      refine no (P := True) (fun h => ?_) (Or.inr hf)
      rcases h with h | h
      · exact hn1 h
      · have := h.2.2.1; omega
  have mid : ∀ t0 : Int32, ps ≠ -1 → (t0.toInt = 0 ∨ t0.toInt = 1) → (t0.toInt = 1 ↔ sd = 0) → f_X5_hasSoundPassed_24 bb (zI S 5 bb) t0 S = some o → (o.1.toInt = 0 ∨ o.1.toInt = 1) ∧ (o.1.toInt = 1 ↔ SPs m sd ps) := by
    intro t0 hn1 ht ht2 hf
    unfold f_X5_hasSoundPassed_24 at hf
    obtain ⟨v1, e1, hf⟩ := m_bndE hf
    have t1 : v1.toInt = ps / 8 := by rw [← hps]; exact b_sh3 e1 (by omega)
    have fin : ∀ u : Int32, u.toInt = 5 - 3 * sd → f_X5_hasSoundPassed_37 bb (zI S 5 bb) t0 u v1 S = some o → (o.1.toInt = 0 ∨ o.1.toInt = 1) ∧ (o.1.toInt = 1 ↔ SPs m sd ps) := by
      intro u hu hf
      unfold f_X5_hasSoundPassed_37 at hf
      rcases m_ifE hf with ⟨c1, hf⟩ | ⟨c1, hf⟩
      · replace c1 := ti_eqP (a := v1) (b := u) c1 rfl rfl
        obtain ⟨-, hf⟩ := m_chkE hf
        replace hf := m_calY hf pb
        obtain ⟨-, hf⟩ := m_chkE hf
        obtain ⟨-, hf⟩ := m_chkE hf
        obtain ⟨v2, e2, hf⟩ := m_bndE hf
        have q2 := mB_at (b := bb) pb e2 (by omega) (by omega)
        rw [hm, hps] at q2
        rcases m_ifE hf with ⟨c2, hf⟩ | ⟨c2, hf⟩
        · replace c2 := ti_eqP (a := v2) (b := (0 : Int32)) c2 rfl rfl
          rcases m_ifE hf with ⟨c3, hf⟩ | ⟨c3, hf⟩
          · replace c3 := ti_eqP (a := t0) (b := (0 : Int32)) c3 rfl rfl
            have : sd = 1 := by omega
            exact last 8 hn1 (by omega) (by omega) (by have z : (8 : Int32).toInt = 8 := rfl; omega) hf
          · replace c3 := ti_eqN (a := t0) (b := (0 : Int32)) c3 rfl rfl
            have : sd = 0 := ht2.1 (by omega)
            exact last (-8) hn1 (by omega) (by omega) (by have z : (-8 : Int32).toInt = -8 := rfl; omega) hf
        · replace c2 := ti_eqN (a := v2) (b := (0 : Int32)) c2 rfl rfl
          refine no (P := True) (fun h => ?_) (Or.inl hf)
          rcases h with h | h
          · exact hn1 h
          · have := h.2.1; omega
      · replace c1 := ti_eqN (a := v1) (b := u) c1 rfl rfl
        refine no (P := True) (fun h => ?_) (Or.inl hf)
        rcases h with h | h
        · exact hn1 h
        · have := h.1; omega
    rcases m_ifE hf with ⟨c, hf⟩ | ⟨c, hf⟩
    · replace c := ti_eqP (a := t0) (b := (0 : Int32)) c rfl rfl
      exact fin 2 (by have z : (2 : Int32).toInt = 2 := rfl; omega) hf
    · replace c := ti_eqN (a := t0) (b := (0 : Int32)) c rfl rfl
      exact fin 5 (by have z : (5 : Int32).toInt = 5 := rfl; have := ht2.1 (by omega); omega) hf
  unfold f_X5_hasSoundPassed_0 at hf
  obtain ⟨-, hf⟩ := m_chkE hf
  rcases m_ifE hf with ⟨c1, hf⟩ | ⟨c1, hf⟩
  · skip
    replace c1 := ti_eqP (a := (zI S 5 bb)) (b := (-1 : Int32)) c1 rfl (show (-1 : Int32).toInt = -1 from rfl)
    obtain ⟨-, hf⟩ := m_chkE hf
    cases hf
    try dsimp only
    exact ⟨Or.inr rfl, fun _ => Or.inl (by omega), fun _ => rfl⟩
  · skip
    replace c1 := ti_eqN (a := (zI S 5 bb)) (b := (-1 : Int32)) c1 rfl (show (-1 : Int32).toInt = -1 from rfl)
    obtain ⟨-, hf⟩ := m_chkE hf
    rcases m_ifE hf with ⟨c2, hf⟩ | ⟨c2, hf⟩
    · skip
      replace c2 := ti_eqP (a := (zI S 3 bb)) (b := (0 : Int32)) c2 rfl (show (0 : Int32).toInt = 0 from rfl)
      exact mid 1 (by omega) (Or.inr rfl) ⟨fun _ => by omega, fun _ => rfl⟩ hf
    · skip
      replace c2 := ti_eqN (a := (zI S 3 bb)) (b := (0 : Int32)) c2 rfl (show (0 : Int32).toInt = 0 from rfl)
      exact mid 0 (by omega) (Or.inl rfl) ⟨fun h => absurd h (by decide), fun h => by omega⟩ hf
end SND
end
section
section WIP
variable {S0 : ZS} {b : Nat} {o : Int32 × ZS}
theorem wp_2 (hp : zP S0 0 b = some (b + 1)) : ∀ (n : Nat) (x1 : Int32) (S : ZS), (0 ≤ x1.toInt ∧ x1.toInt ≤ 64) → SB S0 S b → zI S = zI S0 → (∀ s, 0 ≤ s → s < x1.toInt → mCb S b s = 0) → f_X0_wipe_2 n b x1 S = some o → SB S0 o.2 b ∧ mCb o.2 b = (fun _ => 0) ∧ (zI o.2 3 b).toInt = 0 ∧ (zI o.2 4 b).toInt = 0 ∧ (zI o.2 5 b).toInt = -1 ∧ (zI o.2 6 b).toInt = 1 ∧ zI o.2 1 b = zI S0 1 b ∧ zI o.2 2 b = zI S0 2 b := by
  intro n
  induction n with
  | zero => intro x1 S _ _ _ _ hf; cases hf
  | succ n ih =>
    intro x1 S h1 hs hI hz hf
    have hf : f_X0_wipe_2s (f_X0_wipe_2 n) b x1 S = some o := hf
    have pS : zP S 0 b = some (b + 1) := by rw [hs.2.1]; exact hp
    unfold f_X0_wipe_2s at hf
    rcases m_ifE hf with ⟨c1, hf⟩ | ⟨c1, hf⟩
    · skip
      replace c1 := ti_leP (a := (64 : Int32)) (b := x1) c1 (show (64 : Int32).toInt = 64 from rfl) rfl
      obtain ⟨-, hf⟩ := m_chkE hf
      obtain ⟨S1, e_S1, hf⟩ := m_bndE hf
      obtain ⟨-, hf⟩ := m_chkE hf
      obtain ⟨S2, e_S2, hf⟩ := m_bndE hf
      obtain ⟨-, hf⟩ := m_chkE hf
      obtain ⟨S3, e_S3, hf⟩ := m_bndE hf
      obtain ⟨-, hf⟩ := m_chkE hf
      obtain ⟨S4, e_S4, hf⟩ := m_bndE hf
      cases hf
      try dsimp only
      have m0 : mCb S b = (fun _ => 0) := by
        funext s
        by_cases c : 0 ≤ s ∧ s < 64
        · exact hz s c.1 (by omega)
        · unfold mCb
          rw [if_neg c]
      refine ⟨sb_t (sb_t (sb_t (sb_t hs (sb_I e_S1)) (sb_I e_S2)) (sb_I e_S3)) (sb_I e_S4), ?_, ?_, ?_, ?_, ?_, ?_, ?_⟩
      · rw [mB_I e_S4, mB_I e_S3, mB_I e_S2, mB_I e_S1]; exact m0
      · rw [e_S4, zI_j (by decide), e_S3, zI_j (by decide), e_S2, zI_j (by decide), e_S1, zI_self]; rfl
      · rw [e_S4, zI_j (by decide), e_S3, zI_j (by decide), e_S2, zI_self]; rfl
      · rw [e_S4, zI_j (by decide), e_S3, zI_self]; rfl
      · rw [e_S4, zI_self]; rfl
      · rw [e_S4, zI_j (by decide), e_S3, zI_j (by decide), e_S2, zI_j (by decide), e_S1, zI_j (by decide), hI]
      · rw [e_S4, zI_j (by decide), e_S3, zI_j (by decide), e_S2, zI_j (by decide), e_S1, zI_j (by decide), hI]
    · skip
      replace c1 := ti_leN (a := (64 : Int32)) (b := x1) c1 (show (64 : Int32).toInt = 64 from rfl) rfl
      obtain ⟨-, hf⟩ := m_chkE hf
      replace hf := m_calY hf pS
      obtain ⟨-, hf⟩ := m_chkE hf
      obtain ⟨-, hf⟩ := m_chkE hf
      obtain ⟨S6, e_S6, hf⟩ := m_bndE hf
      obtain ⟨v7, e_v7, hf⟩ := m_bndE hf
      have t_v7 : v7.toInt = x1.toInt + 1 := ti_add e_v7 rfl (show (1 : Int32).toInt = 1 from rfl) (by omega) (by omega)
      have m6 := mB_A pS (by omega) e_S6
      refine ih v7 S6 (by omega) (sb_t hs (sb_A e_S6)) (by rw [e_S6]; exact hI) (fun s s0 s1 => ?_) hf
      rw [m6]
      by_cases e : s = x1.toInt
      · rw [e, up_s]; rfl
      · rw [up_n e]; exact hz s s0 (by omega)
theorem p_wipe {S : ZS} (hp : zP S 0 b = some (b + 1)) (hf : f_X0_wipe b S = some o) : SB S o.2 b ∧ mCb o.2 b = (fun _ => 0) ∧ (zI o.2 3 b).toInt = 0 ∧ (zI o.2 4 b).toInt = 0 ∧ (zI o.2 5 b).toInt = -1 ∧ (zI o.2 6 b).toInt = 1 ∧ zI o.2 1 b = zI S 1 b ∧ zI o.2 2 b = zI S 2 b := wp_2 hp mFuel 0 S (by decide) sb_0 rfl (fun s s0 s1 => by have z : (0 : Int32).toInt = 0 := rfl; omega) hf
end WIP
/-- a sound position -/
noncomputable def SNDp (m : Int → Int) (sd rt ps : Int) : Prop := NPw m ∧ (∃ k, KU m 0 k) ∧ (∃ k, KU m 1 k) ∧ (∀ k, KU m (1 - sd) k → ¬ attd m k sd) ∧ RTo m rt ∧ SPs m sd ps
noncomputable def FEN4 (V : Int → Int) (n : Int) (m : Int → Int) (sd rt ps nb p : Int) : Prop := 0 ≤ numC V p ∧ V (p + nd3 V p) = 32 ∧ 0 < numC V (p + nd3 V p + 1) ∧ nb = numC V (p + nd3 V p + 1) ∧ p + nd3 V p + 1 + nd3 V (p + nd3 V p + 1) = n ∧ SNDp m sd rt ps
noncomputable def FEN3 (V : Int → Int) (n : Int) (m : Int → Int) (sd rt ps nb p : Int) : Prop := (V p = 45 ∨ (psV V p).2 ≠ -1) ∧ ps = (psV V p).2 ∧ V (psV V p).1 = 32 ∧ FEN4 V n m sd rt ps nb ((psV V p).1 + 1)
noncomputable def FEN2 (V : Int → Int) (n : Int) (m : Int → Int) (sd rt ps nb p : Int) : Prop := (V p = 45 ∨ (rgV V p).2 ≠ 0) ∧ rt = (rgV V p).2 ∧ V (rgV V p).1 = 32 ∧ FEN3 V n m sd rt ps nb ((rgV V p).1 + 1)
/-- a text of a position, and what it tells -/
noncomputable def FENp (V : Int → Int) (n : Int) (m : Int → Int) (sd rt ps nb : Int) : Prop := ∃ p1, mhV V 8 0 (fun _ => 0) = some (p1, m) ∧ V p1 = 32 ∧ ((V (p1 + 1) = 119 ∧ sd = 0) ∨ (V (p1 + 1) = 98 ∧ sd = 1)) ∧ V (p1 + 2) = 32 ∧ FEN2 V n m sd rt ps nb (p1 + 3)
theorem rg_rng {V : Int → Int} {p : Int} : p ≤ (rgV V p).1 ∧ (rgV V p).1 ≤ p + 4 ∧ 0 ≤ (rgV V p).2 ∧ (rgV V p).2 ≤ 15 := by
  unfold rgV
  split
  · exact ⟨by show p ≤ p + 1; omega, by show p + 1 ≤ p + 4; omega, by show (0 : Int) ≤ 0; decide, by show (0 : Int) ≤ 15; decide⟩
  · obtain ⟨a, b, c, d⟩ := rgN_b (V := V) (p := p) 4 (by decide)
    have e : (2 : Int) ^ 4 = 16 := by decide
    have e2 : ((4 : Nat) : Int) = 4 := rfl
    exact ⟨a, by omega, c, by omega⟩
theorem ps_rng {V : Int → Int} {p : Int} : p ≤ (psV V p).1 ∧ (psV V p).1 ≤ p + 2 ∧ -1 ≤ (psV V p).2 ∧ (psV V p).2 ≤ 63 := by
  unfold psV
  split
  · exact ⟨by show p ≤ p + 1; omega, by show p + 1 ≤ p + 2; omega, by show (-1 : Int) ≤ -1; decide, by show (-1 : Int) ≤ 63; decide⟩
  · refine ⟨by show p ≤ p + 2; omega, Int.le_refl _, ?_⟩
    show -1 ≤ sqO (V p) (V (p + 1)) ∧ sqO (V p) (V (p + 1)) ≤ 63
    unfold sqO
    split <;> omega
theorem snd_eq {m : Int → Int} {sd rt ps kw kb : Int} (hs : sd = 0 ∨ sd = 1) (hw : KI m kw 0) (hb : KI m kb 1) : SNDp m sd rt ps ↔ SMn m sd (if 1 - sd = 0 then kw else kb) ∧ RTo m rt ∧ SPs m sd ps := by
  have e6 : ∀ s : Nat, (m (s : Int) = 6) = (m (s : Int) = 6 + 8 * 0) := fun s => by rw [show (6 + 8 * 0 : Int) = 6 by decide]
  have e14 : ∀ s : Nat, (m (s : Int) = 14) = (m (s : Int) = 6 + 8 * 1) := fun s => by rw [show (6 + 8 * 1 : Int) = 14 by decide]
  have kuw : ∀ {k w q : Int}, KU m w k → KI m q w → KU m w q := fun {k w q} hk hq => by
    obtain ⟨a, b, c⟩ := hq k hk.1 hk.2.1 hk.2.2.1
    have e := hk.2.2.2 q a b c
    rw [e]; exact hk
  unfold SNDp SMn
  rw [funext e6, funext e14]
  constructor
  · rintro ⟨h1, ⟨k1, h2⟩, ⟨k2, h3⟩, h4, h5, h6⟩
    refine ⟨⟨h1, ku_cnt h2, ku_cnt h3, ?_⟩, h5, h6⟩
    rcases hs with e | e <;> subst e
    · rw [if_neg (by decide)]
      exact h4 kb (kuw h3 hb)
    · rw [if_pos (by decide)]
      exact h4 kw (kuw h2 hw)
  · rintro ⟨⟨h1, h2, h3, h4⟩, h5, h6⟩
    obtain ⟨k1, g1⟩ := cnt_ku h2
    obtain ⟨k2, g2⟩ := cnt_ku h3
    refine ⟨h1, ⟨k1, g1⟩, ⟨k2, g2⟩, fun k hk => ?_, h5, h6⟩
    rcases hs with e | e <;> subst e
    · rw [if_neg (by decide)] at h4
      have e := (kuw g2 hb).2.2.2 k hk.1 hk.2.1 hk.2.2.1
      rw [e]; exact h4
    · rw [if_pos (by decide)] at h4
      have e := (kuw g1 hw).2.2.2 k hk.1 hk.2.1 hk.2.2.1
      rw [e]; exact h4
/-- a sound position can stand -/
theorem snd_pos {m : Int → Int} {sd rt ps kw kb : Int} (hs : sd = 0 ∨ sd = 1) (hM : MBd m) (hr : 0 ≤ rt ∧ rt ≤ 15) (hps : -1 ≤ ps ∧ ps ≤ 63) (hw : KI m kw 0) (hb : KI m kb 1) (h : SNDp m sd rt ps) : POS m sd rt ps kw kb := by
  obtain ⟨h1, ⟨k1, h2⟩, ⟨k2, h3⟩, h4, h5, h6⟩ := h
  have kuw : ∀ {k w q : Int}, KU m w k → KI m q w → KU m w q := fun {k w q} hk hq => by
    obtain ⟨a, b, c⟩ := hq k hk.1 hk.2.1 hk.2.2.1
    have e := hk.2.2.2 q a b c
    rw [e]; exact hk
  refine ⟨hs, hM, kuw h2 hw, kuw h3 hb, ?_, h5, hr, ?_⟩
  · rcases h6 with e | e
    · exact Or.inl e
    · by_cases e1 : ps = -1
      · exact Or.inl e1
      · exact Or.inr ⟨by omega, by omega, e.1, e.2.1, e.2.2.1⟩
  · rcases hs with e | e <;> subst e
    · rw [if_pos rfl]; exact h4 kb (kuw h3 hb)
    · rw [if_neg (by decide)]; exact h4 kw (kuw h2 hw)
section RIN
variable {S : ZS} {x0 vr bb : Nat} {V : Int → Int} {n : Int} {o : Int32 × ZS}
theorem zr_0 {r f : Int} : Zr (fun _ => 0) r f := fun _ _ _ => rfl
theorem ki_0 {k w : Int} (hw : w = 0 ∨ w = 1) : KI (fun _ => 0) k w := fun s _ _ h => by
  have h : (0 : Int) = 6 + 8 * w := h
  omega
/-- the board that the class reads -/
noncomputable def BRd (S : ZS) (bb : Nat) (m : Int → Int) (sd rt ps nb : Int) : Prop := mCb S bb = m ∧ MBd m ∧ (zI S 3 bb).toInt = sd ∧ (zI S 4 bb).toInt = rt ∧ (zI S 5 bb).toInt = ps ∧ (zI S 6 bb).toInt = nb ∧ KI m (zI S 1 bb).toInt 0 ∧ KI m (zI S 2 bb).toInt 1
theorem p_moveNumber {S0 S : ZS} {p : Int} {m : Int → Int} (h : PJ S0 S x0 vr bb V p m) (hp : p ≤ 900) (hf : f_X5_readMoveNumber x0 bb S = some o) : (∀ j, j ≠ 6 → zI o.2 j bb = zI S j bb) ∧ (zI o.2 6 bb).toInt = numC V p ∧ (o.1.toInt = 0 ∨ o.1.toInt = 1) ∧ (o.1.toInt = 1 ↔ 0 < numC V p) ∧ PJ S0 o.2 x0 vr bb V (p + nd3 V p) m := by
  have hf : f_X5_readMoveNumber_0 x0 bb S = some o := hf
  have z0 : (0 : Int32).toInt = 0 := rfl
  unfold f_X5_readMoveNumber_0 at hf
  obtain ⟨-, hf⟩ := m_chkE hf
  obtain ⟨⟨r1, S1c⟩, h_r1, hf⟩ := m_calE hf
  dsimp only at hf
  obtain ⟨i1, q1, J1⟩ := p_number h hp h_r1
  dsimp only at i1 q1 J1
  obtain ⟨-, hf⟩ := m_chkE hf
  obtain ⟨S2, e_S2, hf⟩ := m_bndE hf
  obtain ⟨J2, b2, i2⟩ := pj_b J1 e_S2
  obtain ⟨-, hf⟩ := m_chkE hf
  rcases m_ifE hf with ⟨c1, hf⟩ | ⟨c1, hf⟩
  · skip
    replace c1 := ti_leP (a := (zI S2 6 bb)) (b := (0 : Int32)) c1 rfl (show (0 : Int32).toInt = 0 from rfl)
    unfold f_X5_readMoveNumber_20 at hf
    obtain ⟨-, hf⟩ := m_chkE hf
    cases hf
    try dsimp only
    rw [b2] at c1
    exact ⟨fun j hj => (i2 j hj).trans (i1 j), by rw [b2]; exact q1, Or.inl rfl, ⟨fun g => absurd g (by decide), fun g => by omega⟩, J2⟩
  · skip
    replace c1 := ti_leN (a := (zI S2 6 bb)) (b := (0 : Int32)) c1 rfl (show (0 : Int32).toInt = 0 from rfl)
    unfold f_X5_readMoveNumber_20 at hf
    obtain ⟨-, hf⟩ := m_chkE hf
    cases hf
    try dsimp only
    rw [b2] at c1
    exact ⟨fun j hj => (i2 j hj).trans (i1 j), by rw [b2]; exact q1, Or.inr rfl, ⟨fun g => by omega, fun _ => rfl⟩, J2⟩
theorem p_readInto (hT : ZT S) (k5 : zK S x0 = 5) (k0 : zK S bb = 0) (pb : zP S 0 bb = some (bb + 1)) (k14 : zK S (bb + 1) = 14) (k6 : zK S vr = 6) (hrc : rc vr ≤ 2) (hV : rwC S vr = V) (hVb : ∀ i, 0 ≤ V i ∧ V i ≤ 127) (hn : (zI S 1 vr).toInt = n) (hf : f_X5_readInto x0 bb vr S = some o) : ((o.1.toInt = 1 ∧ PFr (zsI (zsP S 0 x0 (some vr)) 1 x0 0) o.2 x0 bb ∧ ∃ m sd rt ps nb, FENp V n m sd rt ps nb ∧ BRd o.2 bb m sd rt ps nb) ∨ (o.1.toInt = 0 ∧ ∀ m sd rt ps nb, ¬ FENp V n m sd rt ps nb)) := by
  have hf : f_X5_readInto_0 x0 bb vr S = some o := hf
  have z0 : (0 : Int32).toInt = 0 := rfl
  have z32 : (32 : Int32).toInt = 32 := rfl
  have nv : vr ≠ x0 := fun e => by rw [e, k5] at k6; exact absurd k6 (by decide)
  have nb' : vr ≠ bb := fun e => by rw [e, k0] at k6; exact absurd k6 (by decide)
  have nx : x0 ≠ bb := fun e => by rw [e, k0] at k5; exact absurd k5 (by decide)
  have fail : ∀ S9, (∀ m sd rt ps nb, ¬ FENp V n m sd rt ps nb) → f_X5_readInto_145 S9 = some o → ((o.1.toInt = 1 ∧ PFr (zsI (zsP S 0 x0 (some vr)) 1 x0 0) o.2 x0 bb ∧ ∃ m sd rt ps nb, FENp V n m sd rt ps nb ∧ BRd o.2 bb m sd rt ps nb) ∨ (o.1.toInt = 0 ∧ ∀ m sd rt ps nb, ¬ FENp V n m sd rt ps nb)) := by
    intro S9 hno hf
    unfold f_X5_readInto_145 f_X5_readInto_146 at hf
    obtain ⟨-, hf⟩ := m_chkE hf
    cases hf
    exact Or.inr ⟨rfl, hno⟩
  unfold f_X5_readInto_0 at hf
  obtain ⟨-, hf⟩ := m_chkE hf
  obtain ⟨S1, e_S1, hf⟩ := m_bndE hf
  obtain ⟨-, hf⟩ := m_chkE hf
  obtain ⟨S2, e_S2, hf⟩ := m_bndE hf
  have e2 : S2 = zsI (zsP S 0 x0 (some vr)) 1 x0 0 := by rw [e_S2, e_S1]
  have P2 : ∀ j a, (a ≠ x0 ∨ j ≠ 0) → zP S2 j a = zP S j a := fun j a h => by
    rw [e2]
    show va_up (zP S) 0 (va_up (zP S 0) x0 (some vr)) j a = zP S j a
    by_cases e : j = 0
    · subst e
      rw [va_up_self]
      exact va_up_ne _ _ (h.resolve_right (fun g => g rfl))
    · rw [va_up_ne _ _ e]
  have P20 : zP S2 0 x0 = some vr := by
    rw [e2]
    show va_up (zP S) 0 (va_up (zP S 0) x0 (some vr)) 0 x0 = some vr
    rw [va_up_self, va_up_self]
  have I2 : ∀ j a, a ≠ x0 → zI S2 j a = zI S j a := fun j a ha => by rw [e2, zI_b ha]; rfl
  have A2 : zA S2 = zA S := by rw [e2]; rfl
  have K2 : zK S2 = zK S := by rw [e2]; rfl
  have T1 : ZT S1 := e_S1.symm ▸ zt_P hT k5 (by decide) (Or.inr ⟨k6, rfl⟩) ⟨Nat.zero_le _, hrc⟩
  have T2 : ZT S2 := e_S2.symm ▸ zt_I T1 (show zK S1 x0 = 5 by rw [e_S1]; exact k5) (by decide) (show (0 : Int) ≤ (0 : Int32).toInt ∧ (0 : Int32).toInt ≤ (90100 : Int) by decide)
  have pb2 : zP S2 0 bb = some (bb + 1) := by rw [P2 0 bb (Or.inl (fun e => nx e.symm))]; exact pb
  have V2 : rwC S2 vr = V := by
    rw [← hV]
    funext i
    unfold rwC
    rw [I2 1 vr nv, P2 0 vr (Or.inl nv), A2]
  have hc2 : ∀ c, zP S2 0 vr = some c → c ≠ bb + 1 := fun c hc e => by
    rw [P2 0 vr (Or.inl nv)] at hc
    obtain ⟨b, hb, hb2, -⟩ := hT.2.1 vr k6
    rw [hb] at hc
    have e9 : b = c := Option.some.inj hc
    rw [e9, e] at hb2
    rcases hb2 with g | g
    · omega
    · rw [k14] at g; exact absurd g (by decide)
  obtain ⟨-, hf⟩ := m_chkE hf
  obtain ⟨⟨r3, S3c⟩, h_r3, hf⟩ := m_calE hf
  dsimp only at hf
  have T3 : ZT S3c := (ok_of (t_f_X0_wipe (SZ := S2) T2 (a7_0 S2) (by rw [K2]; exact k0)) h_r3).1
  obtain ⟨s3, m3, i33, i34, i35, i36, -, -⟩ := p_wipe pb2 h_r3
  dsimp only at s3 m3 i33 i34 i35 i36
  have J3 : PJ S2 S3c x0 vr bb V 0 (fun _ => 0) := ⟨pfr_b s3, ⟨by rw [K2]; exact k5, P20, by rw [K2]; exact k6⟩, ⟨by rw [K2]; exact k0, pb2⟩, ⟨V2, hVb, hc2⟩, by rw [s3.2.2.1 1 x0 nx, e_S2, zI_self]; rfl, by decide, m3⟩
  rw [← e2] at fail ⊢
  have M3 : MI S3c bb (fun _ => 0) (7 : Int32).toInt 0 := ⟨fun _ => show (0 : Int) ≤ 0 ∧ (0 : Int) ≤ 14 ∧ (0 : Int) ≠ 7 ∧ (0 : Int) ≠ 8 by decide, ki_0 (Or.inl rfl), ki_0 (Or.inr rfl), zr_0⟩
  obtain ⟨-, hf⟩ := m_chkE hf
  obtain ⟨⟨r4, S4c⟩, h_r4, hf⟩ := m_calE hf
  dsimp only at hf
  have h_r4' : f_X5_readMen_3 mFuel x0 bb 7 S3c = some (r4, S4c) := h_r4
  have T4 : ZT S4c := (ok_of (t_f_X5_readMen (SZ := S3c) T3 (a7_0 S3c) (pj_P J3).2.1 (pj_P J3).2.2.1) h_r4).1
  obtain ⟨i4, g4⟩ := men_c mFuel 7 S3c 0 (fun _ => 0) 8 rfl (by decide) J3 M3 (by decide) h_r4'
  dsimp only at i4 g4
  rcases m_ifE hf with ⟨c1, hf⟩ | ⟨c1, hf⟩
  · skip
    replace c1 := ti_eqP (a := r4) (b := (0 : Int32)) c1 rfl (show (0 : Int32).toInt = 0 from rfl)
    rcases g4 with ⟨a, -⟩ | ⟨-, a⟩
    · omega
    · exact fail S4c (fun m sd rt ps nb ⟨p1, h1, _⟩ => by rw [a] at h1; cases h1) hf
  · skip
    replace c1 := ti_eqN (a := r4) (b := (0 : Int32)) c1 rfl (show (0 : Int32).toInt = 0 from rfl)
    obtain ⟨p1, m, a2, J4, hp1, M4⟩ : ∃ p1 m, mhV V 8 0 (fun _ => 0) = some (p1, m) ∧ PJ S2 S4c x0 vr bb V p1 m ∧ p1 ≤ 0 + 9 * ((8 : Nat) : Int) ∧ MI S4c bb m (-1) 0 := by
      rcases g4 with ⟨-, q, m2, b⟩ | ⟨a, -⟩
      · exact ⟨q, m2, b⟩
      · omega
    have hp1' : p1 ≤ 72 := by
      have : ((8 : Nat) : Int) = 8 := rfl
      omega
    have p10 : 0 ≤ p1 := J4.2.2.2.2.2.1.1
    have uq : ∀ {m' sd' rt' ps' nb'}, FENp V n m' sd' rt' ps' nb' → m' = m ∧ V p1 = 32 ∧ ((V (p1 + 1) = 119 ∧ sd' = 0) ∨ (V (p1 + 1) = 98 ∧ sd' = 1)) ∧ V (p1 + 2) = 32 ∧ FEN2 V n m' sd' rt' ps' nb' (p1 + 3) := by
      rintro m' sd' rt' ps' nb' ⟨q, h1, h2⟩
      rw [a2] at h1
      have e := Option.some.inj h1
      have e1 : p1 = q := congrArg Prod.fst e
      have e3 : m = m' := congrArg Prod.snd e
      rw [e1]
      exact ⟨e3.symm, h2⟩
    obtain ⟨-, hf⟩ := m_chkE hf
    obtain ⟨⟨r5, S5c⟩, h_r5, hf⟩ := m_calE hf
    dsimp only at hf
    have T5 : ZT S5c := (ok_of (t_f_X5_skip (SZ := S4c) T4 (a7_0 S4c) (pj_P J4).2.1 (Or.inl (by decide))) h_r5).1
    obtain ⟨i5, g5⟩ := p_skipP J4 (by omega) h_r5
    dsimp only at i5 g5
    rw [z32] at g5
    rcases m_ifE hf with ⟨c2, hf⟩ | ⟨c2, hf⟩
    · skip
      replace c2 := ti_eqP (a := r5) (b := (0 : Int32)) c2 rfl (show (0 : Int32).toInt = 0 from rfl)
      rcases g5 with ⟨a, -⟩ | ⟨-, a, b⟩
      · omega
      · exact fail S5c (fun m sd rt ps nb h => a (uq h).2.1) hf
    · skip
      replace c2 := ti_eqN (a := r5) (b := (0 : Int32)) c2 rfl (show (0 : Int32).toInt = 0 from rfl)
      obtain ⟨v1, J5⟩ : V p1 = 32 ∧ PJ S2 S5c x0 vr bb V (p1 + 1) m := by
        rcases g5 with ⟨-, a⟩ | ⟨a, -⟩
        · exact a
        · omega
      obtain ⟨-, hf⟩ := m_chkE hf
      obtain ⟨⟨r6, S6c⟩, h_r6, hf⟩ := m_calE hf
      dsimp only at hf
      have T6 : ZT S6c := (ok_of (t_f_X5_readSide (SZ := S5c) T5 (a7_0 S5c) (pj_P J5).2.1 (pj_P J5).2.2.1) h_r6).1
      obtain ⟨i6, g6⟩ := p_side J5 (by omega) h_r6
      dsimp only at i6 g6
      rcases m_ifE hf with ⟨c3, hf⟩ | ⟨c3, hf⟩
      · skip
        replace c3 := ti_eqP (a := r6) (b := (0 : Int32)) c3 rfl (show (0 : Int32).toInt = 0 from rfl)
        rcases g6 with ⟨a, -⟩ | ⟨-, a, b⟩
        · omega
        · exact fail S6c (fun m sd rt ps nb h => by have := (uq h).2.2.1; omega) hf
      · skip
        replace c3 := ti_eqN (a := r6) (b := (0 : Int32)) c3 rfl (show (0 : Int32).toInt = 0 from rfl)
        obtain ⟨v2, J6⟩ : ((V (p1 + 1) = 119 ∧ (zI S6c 3 bb).toInt = 0) ∨ (V (p1 + 1) = 98 ∧ (zI S6c 3 bb).toInt = 1)) ∧ PJ S2 S6c x0 vr bb V (p1 + 1 + 1) m := by
          rcases g6 with ⟨-, a⟩ | ⟨a, -⟩
          · exact a
          · omega
        obtain ⟨sd, hsd⟩ : ∃ sd, (zI S6c 3 bb).toInt = sd := ⟨_, rfl⟩
        rw [hsd] at v2
        rw [show p1 + 1 + 1 = p1 + 2 by omega] at J6
        have hs2 : sd = 0 ∨ sd = 1 := by omega
        have uq2 : ∀ {m' sd' rt' ps' nb'}, FENp V n m' sd' rt' ps' nb' → V (p1 + 2) = 32 ∧ FEN2 V n m sd rt' ps' nb' (p1 + 3) := by
          intro m' sd' rt' ps' nb' h
          obtain ⟨a, -, c, d, e⟩ := uq h
          have e9 : sd' = sd := by omega
          rw [a, e9] at e
          exact ⟨d, e⟩
        obtain ⟨-, hf⟩ := m_chkE hf
        obtain ⟨⟨r7, S7c⟩, h_r7, hf⟩ := m_calE hf
        dsimp only at hf
        have T7 : ZT S7c := (ok_of (t_f_X5_skip (SZ := S6c) T6 (a7_0 S6c) (pj_P J6).2.1 (Or.inl (by decide))) h_r7).1
        obtain ⟨i7, g7⟩ := p_skipP J6 (by omega) h_r7
        dsimp only at i7 g7
        rw [z32] at g7
        rcases m_ifE hf with ⟨c4, hf⟩ | ⟨c4, hf⟩
        · skip
          replace c4 := ti_eqP (a := r7) (b := (0 : Int32)) c4 rfl (show (0 : Int32).toInt = 0 from rfl)
          rcases g7 with ⟨a, -⟩ | ⟨-, a, b⟩
          · omega
          · exact fail S7c (fun m sd rt ps nb h => a (uq2 h).1) hf
        · skip
          replace c4 := ti_eqN (a := r7) (b := (0 : Int32)) c4 rfl (show (0 : Int32).toInt = 0 from rfl)
          obtain ⟨v3, J7⟩ : V (p1 + 2) = 32 ∧ PJ S2 S7c x0 vr bb V (p1 + 2 + 1) m := by
            rcases g7 with ⟨-, a⟩ | ⟨a, -⟩
            · exact a
            · omega
          rw [show p1 + 2 + 1 = p1 + 3 by omega] at J7
          have f74 : (zI S7c 4 bb).toInt = 0 := by rw [i7, i6 4 (by decide), i5, i4 4 (by decide)]; exact i34
          have a7 : (zI S7c 1 x0).toInt = p1 + 3 := J7.2.2.2.2.1
          obtain ⟨p2, hp2⟩ : ∃ p2, (rgV V (p1 + 3)).1 = p2 := ⟨_, rfl⟩
          obtain ⟨rt, hrt⟩ : ∃ rt, (rgV V (p1 + 3)).2 = rt := ⟨_, rfl⟩
          obtain ⟨rg1, rg2, rg3, rg4⟩ := rg_rng (V := V) (p := p1 + 3)
          rw [hp2] at rg1 rg2
          rw [hrt] at rg3 rg4
          have uq3 : ∀ {m' sd' rt' ps' nb'}, FENp V n m' sd' rt' ps' nb' → (V (p1 + 3) = 45 ∨ rt ≠ 0) ∧ V p2 = 32 ∧ FEN3 V n m sd rt ps' nb' (p2 + 1) := by
            intro m' sd' rt' ps' nb' h
            obtain ⟨-, b, c, d, e⟩ := uq2 h
            rw [hp2] at d e
            rw [hrt] at b c
            rw [c] at e
            exact ⟨b, d, e⟩
          obtain ⟨-, hf⟩ := m_chkE hf
          obtain ⟨⟨r8, S8c⟩, h_r8, hf⟩ := m_calE hf
          dsimp only at hf
          have T8 : ZT S8c := (ok_of (t_f_X5_readRights (SZ := S7c) T7 (a7_0 S7c) (pj_P J7).2.1 (pj_P J7).2.2.1 (by omega)) h_r8).1
          obtain ⟨i8, b8, g8, g8'⟩ := p_rights J7 f74 (by omega) h_r8
          dsimp only at i8 b8 g8 g8'
          rw [hrt] at g8
          rw [hp2, hrt] at g8'
          rcases m_ifE hf with ⟨c5, hf⟩ | ⟨c5, hf⟩
          · skip
            replace c5 := ti_eqP (a := r8) (b := (0 : Int32)) c5 rfl (show (0 : Int32).toInt = 0 from rfl)
            exact fail S8c (fun m sd rt ps nb h => by have := g8.2 (uq3 h).1; omega) hf
          · skip
            replace c5 := ti_eqN (a := r8) (b := (0 : Int32)) c5 rfl (show (0 : Int32).toInt = 0 from rfl)
            have w8 := g8.1 (by omega)
            obtain ⟨J8, f84⟩ := g8' (by omega)
            obtain ⟨-, hf⟩ := m_chkE hf
            obtain ⟨⟨r9, S9c⟩, h_r9, hf⟩ := m_calE hf
            dsimp only at hf
            have T9 : ZT S9c := (ok_of (t_f_X5_skip (SZ := S8c) T8 (a7_0 S8c) (pj_P J8).2.1 (Or.inl (by decide))) h_r9).1
            obtain ⟨i9, g9⟩ := p_skipP J8 (by omega) h_r9
            dsimp only at i9 g9
            rw [z32] at g9
            rcases m_ifE hf with ⟨c6, hf⟩ | ⟨c6, hf⟩
            · skip
              replace c6 := ti_eqP (a := r9) (b := (0 : Int32)) c6 rfl (show (0 : Int32).toInt = 0 from rfl)
              rcases g9 with ⟨a, -⟩ | ⟨-, a, b⟩
              · omega
              · exact fail S9c (fun m sd rt ps nb h => a (uq3 h).2.1) hf
            · skip
              replace c6 := ti_eqN (a := r9) (b := (0 : Int32)) c6 rfl (show (0 : Int32).toInt = 0 from rfl)
              obtain ⟨v4, J9⟩ : V p2 = 32 ∧ PJ S2 S9c x0 vr bb V (p2 + 1) m := by
                rcases g9 with ⟨-, a⟩ | ⟨a, -⟩
                · exact a
                · omega
              have f95 : (zI S9c 5 bb).toInt = -1 := by rw [i9, i8 5 (by decide), i7, i6 5 (by decide), i5, i4 5 (by decide)]; exact i35
              have a9 : (zI S9c 1 x0).toInt = p2 + 1 := J9.2.2.2.2.1
              obtain ⟨p3, hp3⟩ : ∃ p3, (psV V (p2 + 1)).1 = p3 := ⟨_, rfl⟩
              obtain ⟨ps, hps⟩ : ∃ ps, (psV V (p2 + 1)).2 = ps := ⟨_, rfl⟩
              obtain ⟨ps1, ps2, ps3, ps4⟩ := ps_rng (V := V) (p := p2 + 1)
              rw [hp3] at ps1 ps2
              rw [hps] at ps3 ps4
              have uq4 : ∀ {m' sd' rt' ps' nb'}, FENp V n m' sd' rt' ps' nb' → (V (p2 + 1) = 45 ∨ ps ≠ -1) ∧ V p3 = 32 ∧ FEN4 V n m sd rt ps nb' (p3 + 1) := by
                intro m' sd' rt' ps' nb' h
                obtain ⟨-, -, b, c, d, e⟩ := uq3 h
                rw [hp3] at d e
                rw [hps] at b c
                rw [c] at e
                exact ⟨b, d, e⟩
              obtain ⟨-, hf⟩ := m_chkE hf
              obtain ⟨⟨r10, S10c⟩, h_r10, hf⟩ := m_calE hf
              dsimp only at hf
              have T10 : ZT S10c := (ok_of (t_f_X5_readPassed (SZ := S9c) T9 (a7_0 S9c) (pj_P J9).2.1 (pj_P J9).2.2.1 (by omega)) h_r10).1
              obtain ⟨i10, b10, g10, g10'⟩ := p_passed J9 f95 (by omega) h_r10
              dsimp only at i10 b10 g10 g10'
              rw [hps] at g10
              rw [hp3, hps] at g10'
              rcases m_ifE hf with ⟨c7, hf⟩ | ⟨c7, hf⟩
              · skip
                replace c7 := ti_eqP (a := r10) (b := (0 : Int32)) c7 rfl (show (0 : Int32).toInt = 0 from rfl)
                exact fail S10c (fun m sd rt ps nb h => by have := g10.2 (uq4 h).1; omega) hf
              · skip
                replace c7 := ti_eqN (a := r10) (b := (0 : Int32)) c7 rfl (show (0 : Int32).toInt = 0 from rfl)
                have w10 := g10.1 (by omega)
                obtain ⟨J10, f105⟩ := g10' (by omega)
                obtain ⟨-, hf⟩ := m_chkE hf
                obtain ⟨⟨r11, S11c⟩, h_r11, hf⟩ := m_calE hf
                dsimp only at hf
                have T11 : ZT S11c := (ok_of (t_f_X5_skip (SZ := S10c) T10 (a7_0 S10c) (pj_P J10).2.1 (Or.inl (by decide))) h_r11).1
                obtain ⟨i11, g11⟩ := p_skipP J10 (by omega) h_r11
                dsimp only at i11 g11
                rw [z32] at g11
                rcases m_ifE hf with ⟨c8, hf⟩ | ⟨c8, hf⟩
                · skip
                  replace c8 := ti_eqP (a := r11) (b := (0 : Int32)) c8 rfl (show (0 : Int32).toInt = 0 from rfl)
                  rcases g11 with ⟨a, -⟩ | ⟨-, a, b⟩
                  · omega
                  · exact fail S11c (fun m sd rt ps nb h => a (uq4 h).2.1) hf
                · skip
                  replace c8 := ti_eqN (a := r11) (b := (0 : Int32)) c8 rfl (show (0 : Int32).toInt = 0 from rfl)
                  obtain ⟨v5, J11⟩ : V p3 = 32 ∧ PJ S2 S11c x0 vr bb V (p3 + 1) m := by
                    rcases g11 with ⟨-, a⟩ | ⟨a, -⟩
                    · exact a
                    · omega
                  have n3 := nd3_b (V := V) (p := p3 + 1)
                  obtain ⟨-, hf⟩ := m_chkE hf
                  obtain ⟨⟨r12, S12c⟩, h_r12, hf⟩ := m_calE hf
                  dsimp only at hf
                  have T12 : ZT S12c := (ok_of (t_f_X5_readNumber (SZ := S11c) T11 (a7_0 S11c) (pj_P J11).2.1) h_r12).1
                  obtain ⟨i12, q12, J12⟩ := p_number J11 (by omega) h_r12
                  dsimp only at i12 q12 J12
                  rcases m_ifE hf with ⟨c9, hf⟩ | ⟨c9, hf⟩
                  · skip
                    replace c9 := ti_ltP (a := r12) (b := (0 : Int32)) c9 rfl (show (0 : Int32).toInt = 0 from rfl)
                    exact fail S12c (fun m sd rt ps nb h => by have := (uq4 h).2.2.1; omega) hf
                  · skip
                    replace c9 := ti_ltN (a := r12) (b := (0 : Int32)) c9 rfl (show (0 : Int32).toInt = 0 from rfl)
                    obtain ⟨-, hf⟩ := m_chkE hf
                    obtain ⟨⟨r13, S13c⟩, h_r13, hf⟩ := m_calE hf
                    dsimp only at hf
                    have T13 : ZT S13c := (ok_of (t_f_X5_skip (SZ := S12c) T12 (a7_0 S12c) (pj_P J12).2.1 (Or.inl (by decide))) h_r13).1
                    obtain ⟨i13, g13⟩ := p_skipP J12 (by omega) h_r13
                    dsimp only at i13 g13
                    rw [z32] at g13
                    rcases m_ifE hf with ⟨c10, hf⟩ | ⟨c10, hf⟩
                    · skip
                      replace c10 := ti_eqP (a := r13) (b := (0 : Int32)) c10 rfl (show (0 : Int32).toInt = 0 from rfl)
                      rcases g13 with ⟨a, -⟩ | ⟨-, a, b⟩
                      · omega
                      · exact fail S13c (fun m sd rt ps nb h => a (uq4 h).2.2.2.1) hf
                    · skip
                      replace c10 := ti_eqN (a := r13) (b := (0 : Int32)) c10 rfl (show (0 : Int32).toInt = 0 from rfl)
                      obtain ⟨v6, J13⟩ : V (p3 + 1 + nd3 V (p3 + 1)) = 32 ∧ PJ S2 S13c x0 vr bb V (p3 + 1 + nd3 V (p3 + 1) + 1) m := by
                        rcases g13 with ⟨-, a⟩ | ⟨a, -⟩
                        · exact a
                        · omega
                      have n4 := nd3_b (V := V) (p := p3 + 1 + nd3 V (p3 + 1) + 1)
                      obtain ⟨-, hf⟩ := m_chkE hf
                      obtain ⟨⟨r14, S14c⟩, h_r14, hf⟩ := m_calE hf
                      dsimp only at hf
                      have T14 : ZT S14c := (ok_of (t_f_X5_readMoveNumber (SZ := S13c) T13 (a7_0 S13c) (pj_P J13).2.1 (pj_P J13).2.2.1) h_r14).1
                      obtain ⟨i14, q14, b14, g14, J14⟩ := p_moveNumber J13 (by omega) h_r14
                      dsimp only at i14 q14 b14 g14 J14
                      obtain ⟨P14, -, k14b, pb14⟩ := pj_P J14
                      have at14 : (zI S14c 1 x0).toInt = p3 + 1 + nd3 V (p3 + 1) + 1 + nd3 V (p3 + 1 + nd3 V (p3 + 1) + 1) := J14.2.2.2.2.1
                      have sz14 : (zI S14c 1 vr).toInt = n := by rw [J14.1.2.2.1 1 vr nv nb', I2 1 vr nv]; exact hn
                      have m14 : mCb S14c bb = m := J14.2.2.2.2.2.2
                      have f3 : (zI S14c 3 bb).toInt = sd := by rw [i14 3 (by decide), i13, i12, i11, i10 3 (by decide), i9, i8 3 (by decide), i7]; exact hsd
                      have f4 : (zI S14c 4 bb).toInt = rt := by rw [i14 4 (by decide), i13, i12, i11, i10 4 (by decide), i9]; exact f84
                      have f5 : (zI S14c 5 bb).toInt = ps := by rw [i14 5 (by decide), i13, i12, i11]; exact f105
                      have f1 : zI S14c 1 bb = zI S4c 1 bb := by rw [i14 1 (by decide), i13, i12, i11, i10 1 (by decide), i9, i8 1 (by decide), i7, i6 1 (by decide), i5]
                      have f2 : zI S14c 2 bb = zI S4c 2 bb := by rw [i14 2 (by decide), i13, i12, i11, i10 2 (by decide), i9, i8 2 (by decide), i7, i6 2 (by decide), i5]
                      obtain ⟨M1, M2, M3', -⟩ := M4
                      rw [← f1] at M2
                      rw [← f2] at M3'
                      have sq := snd_eq (rt := rt) (ps := ps) hs2 M2 M3'
                      rcases m_ifE hf with ⟨c11, hf⟩ | ⟨c11, hf⟩
                      · skip
                        replace c11 := ti_eqP (a := r14) (b := (0 : Int32)) c11 rfl (show (0 : Int32).toInt = 0 from rfl)
                        exact fail S14c (fun m sd rt ps nb h => by have := g14.2 (uq4 h).2.2.2.2.1; omega) hf
                      · skip
                        replace c11 := ti_eqN (a := r14) (b := (0 : Int32)) c11 rfl (show (0 : Int32).toInt = 0 from rfl)
                        obtain ⟨-, hf⟩ := m_chkE hf
                        obtain ⟨-, hf⟩ := m_chkE hf
                        replace hf := m_calY hf P14
                        obtain ⟨-, hf⟩ := m_chkE hf
                        obtain ⟨r16, h_r16, hf⟩ := m_calR hf (fun _ h => ro_X6_size h)
                        dsimp only at hf
                        have p_r16 := pc_X6_size h_r16
                        dsimp only at p_r16
                        have q16 : r16.toInt = n := by rw [p_r16]; exact sz14
                        rcases m_ifE hf with ⟨c12, hf⟩ | ⟨c12, hf⟩
                        · skip
                          replace c12 := ti_eqP (a := (zI S14c 1 x0)) (b := r16) c12 rfl rfl
                          obtain ⟨r17, h_r17, hf⟩ := m_calR hf (fun _ h => ro_X5_hasSoundMen h)
                          dsimp only at hf
                          obtain ⟨b17, q17⟩ := sm_6 T14 k14b pb14 m14 M1 f3 hs2 rfl mFuel 0 0 0 (by decide) (by rw [show (0 : Int32).toInt.toNat = 0 from rfl]; rfl) (by rw [show (0 : Int32).toInt.toNat = 0 from rfl]; rfl) (fun s s0 s1 => by omega) (show f_X5_hasSoundMen_6 mFuel bb 0 0 0 S14c = some _ from h_r17)
                          dsimp only at b17 q17
                          rcases m_ifE hf with ⟨c13, hf⟩ | ⟨c13, hf⟩
                          · skip
                            replace c13 := ti_eqP (a := r17) (b := (0 : Int32)) c13 rfl (show (0 : Int32).toInt = 0 from rfl)
                            exact fail S14c (fun m sd rt ps nb h => by have := q17.2 (sq.1 (uq4 h).2.2.2.2.2.2.2).1; omega) hf
                          · skip
                            replace c13 := ti_eqN (a := r17) (b := (0 : Int32)) c13 rfl (show (0 : Int32).toInt = 0 from rfl)
                            obtain ⟨r18, h_r18, hf⟩ := m_calR hf (fun _ h => ro_X5_hasSoundRights h)
                            dsimp only at hf
                            obtain ⟨b18, q18⟩ := sr_2 k14b pb14 m14 f4 ⟨rg3, rg4⟩ mFuel 0 (by decide) (fun i i0 i1 => by omega) (show f_X5_hasSoundRights_2 mFuel bb 0 S14c = some _ from h_r18)
                            dsimp only at b18 q18
                            rcases m_ifE hf with ⟨c14, hf⟩ | ⟨c14, hf⟩
                            · skip
                              replace c14 := ti_eqP (a := r18) (b := (0 : Int32)) c14 rfl (show (0 : Int32).toInt = 0 from rfl)
                              exact fail S14c (fun m sd rt ps nb h => by have := q18.2 (sq.1 (uq4 h).2.2.2.2.2.2.2).2.1; omega) hf
                            · skip
                              replace c14 := ti_eqN (a := r18) (b := (0 : Int32)) c14 rfl (show (0 : Int32).toInt = 0 from rfl)
                              obtain ⟨r19, h_r19, hf⟩ := m_calR hf (fun _ h => ro_X5_hasSoundPassed h)
                              dsimp only at hf
                              obtain ⟨b19, q19⟩ := p_soundPassed T14 k14b pb14 m14 f3 hs2 f5 ⟨ps3, ps4⟩ h_r19
                              dsimp only at b19 q19
                              rcases m_ifE hf with ⟨c15, hf⟩ | ⟨c15, hf⟩
                              · skip
                                replace c15 := ti_eqP (a := r19) (b := (0 : Int32)) c15 rfl (show (0 : Int32).toInt = 0 from rfl)
                                exact fail S14c (fun m sd rt ps nb h => by have := q19.2 (sq.1 (uq4 h).2.2.2.2.2.2.2).2.2; omega) hf
                              · skip
                                replace c15 := ti_eqN (a := r19) (b := (0 : Int32)) c15 rfl (show (0 : Int32).toInt = 0 from rfl)
                                unfold f_X5_readInto_146 at hf
                                obtain ⟨-, hf⟩ := m_chkE hf
                                cases hf
                                try dsimp only
                                have snd := sq.2 ⟨q17.1 (by omega), q18.1 (by omega), q19.1 (by omega)⟩
                                refine Or.inl ⟨rfl, J14.1, m, sd, rt, ps, numC V (p3 + 1 + nd3 V (p3 + 1) + 1), ⟨p1, a2, v1, v2, v3, ?_⟩, m14, M1, f3, f4, f5, q14, M2, M3'⟩
                                refine ⟨by rw [hrt]; exact w8, hrt.symm, by rw [hp2]; exact v4, ?_⟩
                                rw [hp2]
                                refine ⟨by rw [hps]; exact w10, hps.symm, by rw [hp3]; exact v5, ?_⟩
                                rw [hp3]
                                exact ⟨by omega, v6, g14.1 (by omega), rfl, by omega, snd⟩
                        · skip
                          replace c12 := ti_eqN (a := (zI S14c 1 x0)) (b := r16) c12 rfl rfl
                          exact fail S14c (fun m sd rt ps nb h => by have := (uq4 h).2.2.2.2.2.2.1; omega) hf
end RIN
end
section
/-- the sign that the reference looks at in a value -/
noncomputable def sgR (I : Nat → Int32) (A : Nat → Nat → Int32) : Int := if (I 39).toInt ≤ (I 38).toInt then 0 else (A 22 (I 38).toInt.toNat).toInt
noncomputable def vR (A : Nat → Nat → Int32) (b n i : Int) : Int := if i < n then (A 22 (b + i).toNat).toInt else 0
/-- while the reference reads a position: its value, the place in it, the men so far -/
noncomputable def VJ (I : Nat → Int32) (A : Nat → Nat → Int32) (b n : Int) (V : Int → Int) (p : Int) (m : Int → Int) : Prop := TJ I ∧ TK A ∧ (0 ≤ b ∧ b ≤ 1440 ∧ 0 ≤ n ∧ n ≤ 96) ∧ (I 38).toInt = b + p ∧ (I 39).toInt = b + n ∧ (0 ≤ p ∧ p ≤ 1000) ∧ (∀ i, 0 ≤ i → V i = vR A b n i) ∧ (∀ i, 0 ≤ V i ∧ V i ≤ 127) ∧ mR A = m ∧ MBd m
section VJS
variable {I I' : Nat → Int32} {A A' : Nat → Nat → Int32} {b n p q : Int} {V m m' : Int → Int} {o : Int32 × MS} {x0 x1 x2 : Int32}
theorem pc_sign (hf : f_sign I A = some o) : o.1.toInt = sgR I A := by
  have hf : f_sign_0 I A = some o := hf
  unfold sgR
  unfold f_sign_0 at hf
  rcases m_ifE hf with ⟨c1, hf⟩ | ⟨c1, hf⟩
  · skip
    replace c1 := ti_leP (a := (I 39)) (b := (I 38)) c1 rfl rfl
    unfold f_sign_24 at hf
    obtain ⟨-, hf⟩ := m_chkE hf
    cases hf
    try dsimp only
    rw [if_pos c1]
    rfl
  · skip
    replace c1 := ti_leN (a := (I 39)) (b := (I 38)) c1 rfl rfl
    obtain ⟨-, hf⟩ := m_chkE hf
    obtain ⟨v1, e_v1, hf⟩ := m_bndE hf
    unfold f_sign_24 at hf
    obtain ⟨-, hf⟩ := m_chkE hf
    cases hf
    try dsimp only
    rw [if_neg (by omega), e_v1]
    rfl
theorem vj_sg (h : VJ I A b n V p m) : sgR I A = V p := by
  obtain ⟨-, -, hb, h38, h39, hp, hV, -, -⟩ := h
  rw [hV p hp.1]
  unfold sgR vR
  rw [h38, h39]
  by_cases c : p < n
  · rw [if_neg (by omega), if_pos c]
  · rw [if_pos (by omega), if_neg c]
theorem vj_at {v : Int32} (h : VJ I A b n V p m) (e : I' = upd I 38 v) (hv : v.toInt = b + q) (hq : 0 ≤ q ∧ q ≤ 1000) : VJ I' A b n V q m := by
  obtain ⟨hI, hA, hb, h38, h39, hp, hV, hc, hm, hM⟩ := h
  subst e
  exact ⟨tj_u hI (by show (0 : Int) ≤ _; omega) (by show _ ≤ (4000 : Int); omega), hA, hb, by rw [upd_self]; exact hv, by rw [upd_ne (by decide)]; exact h39, hq, hV, hc, hm, hM⟩
theorem vj_w {k : Nat} {v : Int32} (h : VJ I A b n V p m) (e : I' = upd I k v) (h1 : (tB k).1 ≤ v.toInt) (h2 : v.toInt ≤ (tB k).2) (hk : k ≠ 38) (hk2 : k ≠ 39) : VJ I' A b n V p m := by
  obtain ⟨hI, hA, hb, h38, h39, hp, hV, hc, hm, hM⟩ := h
  subst e
  exact ⟨tj_u hI h1 h2, hA, hb, by rw [upd_ne (fun g => hk g.symm)]; exact h38, by rw [upd_ne (fun g => hk2 g.symm)]; exact h39, hp, hV, hc, hm, hM⟩
theorem vj_m {x v : Int32} (h : VJ I A b n V p m) (e : A' = va_up A 24 (upd (A 24) (x).toNatClampNeg v)) (h1 : 0 ≤ x.toInt) (h2 : x.toInt < 64) (hv : 0 ≤ v.toInt ∧ v.toInt ≤ 14 ∧ v.toInt ≠ 7 ∧ v.toInt ≠ 8) : VJ I A' b n V p (up m x.toInt v.toInt) := by
  obtain ⟨hI, hA, hb, h38, h39, hp, hV, hc, hm, hM⟩ := h
  refine ⟨hI, by rw [e]; exact tk_w hA rfl, hb, h38, h39, hp, fun i hi => ?_, hc, by rw [mR_up e h1 h2, hm], fun s => ?_⟩
  · rw [hV i hi]
    unfold vR
    rw [e, va_up_ne _ _ (by decide)]
  · unfold up
    split
    · exact hv
    · exact hM s
theorem v_pass (h : VJ I A b n V p m) (hp : p ≤ 990) (hf : f_pass x1 I A = some o) : VJ o.2.1 o.2.2 b n V (p + 1) m ∧ (o.1.toInt = 0 ∨ o.1.toInt = 1) ∧ (o.1.toInt = 1 ↔ V p = x1.toInt) := by
  have hf : f_pass_0 x1 I A = some o := hf
  have h38 := h.2.2.2.1
  have hb := h.2.2.1
  have hpp := h.2.2.2.2.2.1
  unfold f_pass_0 at hf
  obtain ⟨r1, h_r1, hf⟩ := m_clR hf (fun _ h => rro_sign h)
  have p_r1 := pc_sign h_r1
  dsimp only at p_r1
  rw [vj_sg h] at p_r1
  rcases m_ifE hf with ⟨c1, hf⟩ | ⟨c1, hf⟩
  · skip
    replace c1 := ti_eqP (a := r1) (b := x1) c1 rfl rfl
    unfold f_pass_13 at hf
    obtain ⟨v1, e_v1, hf⟩ := m_bndE hf
    have t_v1 : v1.toInt = (I 38).toInt + 1 := ti_add e_v1 rfl (show (1 : Int32).toInt = 1 from rfl) (by omega) (by omega)
    obtain ⟨I2, e_I2, hf⟩ := m_bndE hf
    obtain ⟨-, hf⟩ := m_chkE hf
    cases hf
    try dsimp only
    exact ⟨vj_at h e_I2 (by omega) (by omega), Or.inr rfl, ⟨fun _ => by omega, fun _ => rfl⟩⟩
  · skip
    replace c1 := ti_eqN (a := r1) (b := x1) c1 rfl rfl
    unfold f_pass_13 at hf
    obtain ⟨v1, e_v1, hf⟩ := m_bndE hf
    have t_v1 : v1.toInt = (I 38).toInt + 1 := ti_add e_v1 rfl (show (1 : Int32).toInt = 1 from rfl) (by omega) (by omega)
    obtain ⟨I2, e_I2, hf⟩ := m_bndE hf
    obtain ⟨-, hf⟩ := m_chkE hf
    cases hf
    try dsimp only
    exact ⟨vj_at h e_I2 (by omega) (by omega), Or.inl rfl, ⟨fun g => absurd g (by decide), fun g => by omega⟩⟩
theorem manV_lo : ∀ k : Nat, k < 26 → manV (97 + (k : Int)) = if manV (65 + (k : Int)) = 0 then 0 else manV (65 + (k : Int)) + 8 := by decide
theorem mo_0 {rec : Int32 → (Nat → Int32) → (Nat → Nat → Int32) → Option (Int32 × MS)} (hrec : ∀ v I A o, 65 ≤ v.toInt → v.toInt ≤ 90 → rec v I A = some o → o.1.toInt = manV v.toInt) (hx : 0 ≤ x0.toInt ∧ x0.toInt ≤ 127) (hf : f_manOf_0 rec x0 I A = some o) : o.1.toInt = manV x0.toInt := by
  have z0 : (0 : Int32).toInt = 0 := rfl
  have z1 : (1 : Int32).toInt = 1 := rfl
  have z2 : (2 : Int32).toInt = 2 := rfl
  have z3 : (3 : Int32).toInt = 3 := rfl
  have z4 : (4 : Int32).toInt = 4 := rfl
  have z5 : (5 : Int32).toInt = 5 := rfl
  have z6 : (6 : Int32).toInt = 6 := rfl
  have lo : ∀ v : Int, 97 ≤ x0.toInt → x0.toInt ≤ 122 → v = x0.toInt - 32 → manV x0.toInt = if manV v = 0 then 0 else manV v + 8 := fun v h1 h2 hv => by
    have := manV_lo (x0.toInt - 97).toNat (by omega)
    rw [Int.toNat_of_nonneg (by omega), show 97 + (x0.toInt - 97) = x0.toInt by omega, show 65 + (x0.toInt - 97) = v by omega] at this
    exact this
  unfold f_manOf_0 at hf
  rcases m_ifE hf with ⟨c1, hf⟩ | ⟨c1, hf⟩
  · skip
    replace c1 := ti_eqP (a := x0) (b := (66 : Int32)) c1 rfl (show (66 : Int32).toInt = 66 from rfl)
    cases hf
    try dsimp only
    rw [c1]; rfl
  · skip
    replace c1 := ti_eqN (a := x0) (b := (66 : Int32)) c1 rfl (show (66 : Int32).toInt = 66 from rfl)
    rcases m_ifE hf with ⟨c2, hf⟩ | ⟨c2, hf⟩
    · skip
      replace c2 := ti_eqP (a := x0) (b := (75 : Int32)) c2 rfl (show (75 : Int32).toInt = 75 from rfl)
      cases hf
      try dsimp only
      rw [c2]; rfl
    · skip
      replace c2 := ti_eqN (a := x0) (b := (75 : Int32)) c2 rfl (show (75 : Int32).toInt = 75 from rfl)
      rcases m_ifE hf with ⟨c3, hf⟩ | ⟨c3, hf⟩
      · skip
        replace c3 := ti_eqP (a := x0) (b := (78 : Int32)) c3 rfl (show (78 : Int32).toInt = 78 from rfl)
        cases hf
        try dsimp only
        rw [c3]; rfl
      · skip
        replace c3 := ti_eqN (a := x0) (b := (78 : Int32)) c3 rfl (show (78 : Int32).toInt = 78 from rfl)
        rcases m_ifE hf with ⟨c4, hf⟩ | ⟨c4, hf⟩
        · skip
          replace c4 := ti_eqP (a := x0) (b := (80 : Int32)) c4 rfl (show (80 : Int32).toInt = 80 from rfl)
          cases hf
          try dsimp only
          rw [c4]; rfl
        · skip
          replace c4 := ti_eqN (a := x0) (b := (80 : Int32)) c4 rfl (show (80 : Int32).toInt = 80 from rfl)
          rcases m_ifE hf with ⟨c5, hf⟩ | ⟨c5, hf⟩
          · skip
            replace c5 := ti_eqP (a := x0) (b := (81 : Int32)) c5 rfl (show (81 : Int32).toInt = 81 from rfl)
            cases hf
            try dsimp only
            rw [c5]; rfl
          · skip
            replace c5 := ti_eqN (a := x0) (b := (81 : Int32)) c5 rfl (show (81 : Int32).toInt = 81 from rfl)
            rcases m_ifE hf with ⟨c6, hf⟩ | ⟨c6, hf⟩
            · skip
              replace c6 := ti_eqP (a := x0) (b := (82 : Int32)) c6 rfl (show (82 : Int32).toInt = 82 from rfl)
              cases hf
              try dsimp only
              rw [c6]; rfl
            · skip
              replace c6 := ti_eqN (a := x0) (b := (82 : Int32)) c6 rfl (show (82 : Int32).toInt = 82 from rfl)
              rcases m_ifE hf with ⟨c7, hf⟩ | ⟨c7, hf⟩
              · skip
                replace c7 := ti_ltP (a := x0) (b := (97 : Int32)) c7 rfl (show (97 : Int32).toInt = 97 from rfl)
                unfold f_manOf_134 at hf
                unfold f_manOf_135 at hf
                cases hf
                try dsimp only
                unfold manV
                omega
              · skip
                replace c7 := ti_ltN (a := x0) (b := (97 : Int32)) c7 rfl (show (97 : Int32).toInt = 97 from rfl)
                rcases m_ifE hf with ⟨c8, hf⟩ | ⟨c8, hf⟩
                · skip
                  replace c8 := ti_ltP (a := (122 : Int32)) (b := x0) c8 (show (122 : Int32).toInt = 122 from rfl) rfl
                  unfold f_manOf_134 at hf
                  unfold f_manOf_135 at hf
                  cases hf
                  try dsimp only
                  unfold manV
                  omega
                · skip
                  replace c8 := ti_ltN (a := (122 : Int32)) (b := x0) c8 (show (122 : Int32).toInt = 122 from rfl) rfl
                  obtain ⟨v1, e_v1, hf⟩ := m_bndE hf
                  have t_v1 : v1.toInt = x0.toInt - 32 := ti_sub e_v1 rfl (show (32 : Int32).toInt = 32 from rfl) (by omega) (by omega)
                  obtain ⟨v2, e_v2, hf⟩ := m_bndE hf
                  have t_v2 : v2.toInt = v1.toInt := by rw [e_v2]; exact nar_ci rfl (by omega) (by omega)
                  obtain ⟨⟨r3, Ic3, Ac3⟩, h_r3, hf⟩ := m_clE hf
                  dsimp only at hf
                  have q3 := hrec _ _ _ _ (by omega) (by omega) h_r3
                  dsimp only at q3
                  have b3 := manV_b v2.toInt
                  have l3 := lo v2.toInt (by omega) (by omega) (by omega)
                  rcases m_ifE hf with ⟨c9, hf⟩ | ⟨c9, hf⟩
                  · skip
                    replace c9 := ti_leP (a := r3) (b := (0 : Int32)) c9 rfl (show (0 : Int32).toInt = 0 from rfl)
                    unfold f_manOf_134 at hf
                    unfold f_manOf_135 at hf
                    cases hf
                    try dsimp only
                    rw [l3, if_pos (by omega)]
                    rfl
                  · skip
                    replace c9 := ti_leN (a := r3) (b := (0 : Int32)) c9 rfl (show (0 : Int32).toInt = 0 from rfl)
                    obtain ⟨v4, e_v4, hf⟩ := m_bndE hf
                    have t_v4 : v4.toInt = x0.toInt - 32 := ti_sub e_v4 rfl (show (32 : Int32).toInt = 32 from rfl) (by omega) (by omega)
                    obtain ⟨v5, e_v5, hf⟩ := m_bndE hf
                    have t_v5 : v5.toInt = v4.toInt := by rw [e_v5]; exact nar_ci rfl (by omega) (by omega)
                    obtain ⟨⟨r6, Ic6, Ac6⟩, h_r6, hf⟩ := m_clE hf
                    dsimp only at hf
                    have q6 := hrec _ _ _ _ (by omega) (by omega) h_r6
                    dsimp only at q6
                    have e65 : v5.toInt = v2.toInt := by omega
                    rw [e65] at q6
                    obtain ⟨v7, e_v7, hf⟩ := m_bndE hf
                    have t_v7 : v7.toInt = r6.toInt + 8 := ti_add e_v7 rfl (show (8 : Int32).toInt = 8 from rfl) (by omega) (by omega)
                    unfold f_manOf_135 at hf
                    cases hf
                    try dsimp only
                    rw [l3, if_neg (by omega)]
                    omega
theorem v_manOf (hx : 0 ≤ x0.toInt ∧ x0.toInt ≤ 127) (hf : f_manOf x0 I A = some o) : o.1.toInt = manV x0.toInt := by
  have h0 : ∀ v I A o, 65 ≤ v.toInt → v.toInt ≤ 90 → fr_manOf 0 v I A = some o → o.1.toInt = manV v.toInt := fun v I A o _ _ h => by cases h
  have h1 : ∀ v I A o, 65 ≤ v.toInt → v.toInt ≤ 90 → fr_manOf 1 v I A = some o → o.1.toInt = manV v.toInt := fun v I A o a b h => mo_0 h0 (by omega) h
  have h2 : ∀ v I A o, 65 ≤ v.toInt → v.toInt ≤ 90 → fr_manOf 2 v I A = some o → o.1.toInt = manV v.toInt := fun v I A o a b h => mo_0 h1 (by omega) h
  exact mo_0 h2 hx hf
theorem rank_r {r : Int} (hx : x1.toInt = r) (hr : 0 ≤ r ∧ r ≤ 7) : ∀ (N : Nat) (x2 x3 : Int32) (I : Nat → Int32) (A : Nat → Nat → Int32) (p : Int) (m : Int → Int) (k : Nat), VJ I A b n V p m → (x3.toInt = 0 ∨ x3.toInt = 1) → (0 ≤ x2.toInt ∧ x2.toInt ≤ 16) → p + (8 - x2.toInt) ≤ 980 → p ≤ 980 → 9 ≤ (k : Int) + x2.toInt → 1 ≤ k → f_readRank_4 N x1 x2 x3 I A = some o → ((o.1.toInt = 1 ∧ ∃ q m2, rkV V (8 * r) k p x2.toInt x3.toInt m = some (q, m2) ∧ VJ o.2.1 o.2.2 b n V q m2 ∧ q ≤ p + (8 - x2.toInt)) ∨ (o.1.toInt = 0 ∧ rkV V (8 * r) k p x2.toInt x3.toInt m = none)) := by
  intro N
  induction N with
  | zero => intro x2 x3 I A p m k _ _ _ _ _ _ _ hf; cases hf
  | succ N ih =>
    intro x2 x3 I A p m k hJ h3 h2 hpb hpp hk hk1 hf
    have hf : f_readRank_4s (f_readRank_4 N) x1 x2 x3 I A = some o := hf
    obtain ⟨k2, rfl⟩ : ∃ k2, k = k2 + 1 := ⟨k - 1, by omega⟩
    have b0 := hJ.2.2.2.2.2.2.2.1 p
    have z0 : (0 : Int32).toInt = 0 := rfl
    have z1 : (1 : Int32).toInt = 1 := rfl
    have nxt : ∀ (A1 : Nat → Nat → Int32) (m1 : Int → Int) (w d : Int32), VJ I A1 b n V p m1 → x2.toInt < w.toInt → w.toInt ≤ 16 → x2.toInt < 8 → (d.toInt = 0 ∨ d.toInt = 1) → rkV V (8 * r) (k2 + 1) p x2.toInt x3.toInt m = rkV V (8 * r) k2 (p + 1) w.toInt d.toInt m1 → f_readRank_82 (f_readRank_4 N) x1 w d I A1 = some o → ((o.1.toInt = 1 ∧ ∃ q m2, rkV V (8 * r) (k2 + 1) p x2.toInt x3.toInt m = some (q, m2) ∧ VJ o.2.1 o.2.2 b n V q m2 ∧ q ≤ p + (8 - x2.toInt)) ∨ (o.1.toInt = 0 ∧ rkV V (8 * r) (k2 + 1) p x2.toInt x3.toInt m = none)) := by
      intro A1 m1 w d J1 hw1 hw2 hlt hd er hf
      have h38 := J1.2.2.2.1
      have hb := J1.2.2.1
      have hp0 := J1.2.2.2.2.2.1
      unfold f_readRank_82 at hf
      obtain ⟨v1, e1, hf⟩ := m_bndE hf
      obtain ⟨I2, e2, hf⟩ := m_bndE hf
      have t1 : v1.toInt = (I 38).toInt + 1 := ti_add e1 rfl (show (1 : Int32).toInt = 1 from rfl) (by omega) (by omega)
      have J2 : VJ I2 A1 b n V (p + 1) m1 := vj_at J1 e2 (by omega) (by omega)
      have g := ih w d I2 A1 (p + 1) m1 k2 J2 hd (by omega) (by omega) (by omega) (by omega) (by omega) hf
      rw [er]
      rcases g with ⟨a1, q, m2, a2, a3, a4⟩ | ⟨a1, a2⟩
      · exact Or.inl ⟨a1, q, m2, a2, a3, by omega⟩
      · exact Or.inr ⟨a1, a2⟩
    have man : ∀ w : Int32, w.toInt = manV (V p) → x2.toInt < 8 → (¬ (49 ≤ V p ∧ V p ≤ 56) ∨ x3.toInt = 1) → f_readRank_54 (f_readRank_4 N) x1 x2 w I A = some o → ((o.1.toInt = 1 ∧ ∃ q m2, rkV V (8 * r) (k2 + 1) p x2.toInt x3.toInt m = some (q, m2) ∧ VJ o.2.1 o.2.2 b n V q m2 ∧ q ≤ p + (8 - x2.toInt)) ∨ (o.1.toInt = 0 ∧ rkV V (8 * r) (k2 + 1) p x2.toInt x3.toInt m = none)) := by
      intro w hw hlt hc hf
      have mb := manV_b (V p)
      have md : 49 ≤ V p ∧ V p ≤ 56 → manV (V p) = 0 := fun h => by unfold manV; omega
      unfold f_readRank_54 at hf
      rcases m_ifE hf with ⟨c1, hf⟩ | ⟨c1, hf⟩
      · replace c1 := ti_leP (a := w) (b := (0 : Int32)) c1 rfl rfl
        obtain ⟨-, hf⟩ := m_chkE hf
        cases hf
        refine Or.inr ⟨rfl, ?_⟩
        by_cases hd : 49 ≤ V p ∧ V p ≤ 56
        · exact rk_dd hlt hd (by omega)
        · exact rk_no hlt hd (by omega)
      · replace c1 := ti_leN (a := w) (b := (0 : Int32)) c1 rfl rfl
        have nd : ¬ (49 ≤ V p ∧ V p ≤ 56) := fun h => by have := md h; omega
        obtain ⟨v1, e1, hf⟩ := m_bndE hf
        obtain ⟨v2, e2, hf⟩ := m_bndE hf
        obtain ⟨-, hf⟩ := m_chkE hf
        obtain ⟨A3, e3, hf⟩ := m_bndE hf
        obtain ⟨v4, e4, hf⟩ := m_bndE hf
        have t1 : v1.toInt = 8 * x1.toInt := ti_mul e1 (show (8 : Int32).toInt = 8 from rfl) rfl (by omega) (by omega)
        have t2 : v2.toInt = v1.toInt + x2.toInt := ti_add e2 rfl rfl (by omega) (by omega)
        have t4 : v4.toInt = x2.toInt + 1 := ti_add e4 rfl (show (1 : Int32).toInt = 1 from rfl) (by omega) (by omega)
        have J3 := vj_m hJ e3 (by omega) (by omega) (by omega)
        have e9 : v2.toInt = 8 * r + x2.toInt := by omega
        rw [e9, hw] at J3
        refine nxt A3 _ v4 0 J3 (by omega) (by omega) hlt (Or.inl rfl) ?_ hf
        rw [rk_man hlt nd (by omega), t4]
        rfl
    unfold f_readRank_4s at hf
    rcases m_ifE hf with ⟨c1, hf⟩ | ⟨c1, hf⟩
    · skip
      replace c1 := ti_leP (a := (8 : Int32)) (b := x2) c1 (show (8 : Int32).toInt = 8 from rfl) rfl
      rcases m_ifE hf with ⟨c2, hf⟩ | ⟨c2, hf⟩
      · skip
        replace c2 := ti_eqP (a := x2) (b := (8 : Int32)) c2 rfl (show (8 : Int32).toInt = 8 from rfl)
        unfold f_readRank_106 at hf
        obtain ⟨-, hf⟩ := m_chkE hf
        cases hf
        try dsimp only
        exact Or.inl ⟨rfl, p, m, rk_end (by omega), hJ, by omega⟩
      · skip
        replace c2 := ti_eqN (a := x2) (b := (8 : Int32)) c2 rfl (show (8 : Int32).toInt = 8 from rfl)
        unfold f_readRank_106 at hf
        obtain ⟨-, hf⟩ := m_chkE hf
        cases hf
        try dsimp only
        exact Or.inr ⟨rfl, rk_over (by omega)⟩
    · skip
      replace c1 := ti_leN (a := (8 : Int32)) (b := x2) c1 (show (8 : Int32).toInt = 8 from rfl) rfl
      obtain ⟨r1, h_r1, hf⟩ := m_clR hf (fun _ h => rro_sign h)
      have p_r1 := pc_sign h_r1
      dsimp only at p_r1
      rw [vj_sg hJ] at p_r1
      obtain ⟨r2, h_r2, hf⟩ := m_clR hf (fun _ h => rro_manOf h)
      have q2 := v_manOf (by omega) h_r2
      dsimp only at q2
      rw [p_r1] at q2
      rcases m_ifE hf with ⟨c3, hf⟩ | ⟨c3, hf⟩
      · skip
        replace c3 := ti_ltP (a := r1) (b := (49 : Int32)) c3 rfl (show (49 : Int32).toInt = 49 from rfl)
        exact man r2 q2 (by omega) (Or.inl (by omega)) hf
      · skip
        replace c3 := ti_ltN (a := r1) (b := (49 : Int32)) c3 rfl (show (49 : Int32).toInt = 49 from rfl)
        rcases m_ifE hf with ⟨c4, hf⟩ | ⟨c4, hf⟩
        · skip
          replace c4 := ti_ltP (a := (56 : Int32)) (b := r1) c4 (show (56 : Int32).toInt = 56 from rfl) rfl
          exact man r2 q2 (by omega) (Or.inl (by omega)) hf
        · skip
          replace c4 := ti_ltN (a := (56 : Int32)) (b := r1) c4 (show (56 : Int32).toInt = 56 from rfl) rfl
          rcases m_ifE hf with ⟨c5, hf⟩ | ⟨c5, hf⟩
          · skip
            replace c5 := ti_eqP (a := x3) (b := (0 : Int32)) c5 rfl (show (0 : Int32).toInt = 0 from rfl)
            obtain ⟨v3, e_v3, hf⟩ := m_bndE hf
            have t_v3 : v3.toInt = x2.toInt + r1.toInt := ti_add e_v3 rfl rfl (by omega) (by omega)
            obtain ⟨v4, e_v4, hf⟩ := m_bndE hf
            have t_v4 : v4.toInt = v3.toInt - 48 := ti_sub e_v4 rfl (show (48 : Int32).toInt = 48 from rfl) (by omega) (by omega)
            refine nxt A m v4 1 hJ (by omega) (by omega) (by omega) (Or.inr rfl) ?_ hf
            rw [rk_dg (by omega) (by omega) (by omega), show v4.toInt = x2.toInt + (V p - 48) by omega]
            rfl
          · skip
            replace c5 := ti_eqN (a := x3) (b := (0 : Int32)) c5 rfl (show (0 : Int32).toInt = 0 from rfl)
            exact man r2 q2 (by omega) (Or.inr (by omega)) hf
theorem v_rank {r : Int} (hx : x1.toInt = r) (hr : 0 ≤ r ∧ r ≤ 7) (hJ : VJ I A b n V p m) (hp : p ≤ 960) (hf : f_readRank x1 I A = some o) : ((o.1.toInt = 1 ∧ ∃ q m2, rkV V (8 * r) 9 p 0 0 m = some (q, m2) ∧ VJ o.2.1 o.2.2 b n V q m2 ∧ q ≤ p + 8) ∨ (o.1.toInt = 0 ∧ rkV V (8 * r) 9 p 0 0 m = none)) := by
  have z0 : (0 : Int32).toInt = 0 := rfl
  have g := rank_r hx hr mFuel 0 0 I A p m 9 hJ (Or.inl rfl) (by omega) (by omega) (by omega) (by omega) (by omega) hf
  rw [z0] at g
  exact g
/-- what the reference's number of a value is -/
theorem nr_c {x3 : Int32} (hp : 0 ≤ p ∧ p ≤ 900) (h3 : x3.toInt = V p) : ∀ (N : Nat) (x1 x2 : Int32) (I : Nat → Int32) (A : Nat → Nat → Int32) (k : Int), x2.toInt = k → (0 ≤ k ∧ k ≤ 4) → VJ I A b n V (p + k) m → (∀ j, 0 ≤ j → j < k → 48 ≤ V (p + j) ∧ V (p + j) ≤ 57) → (k ≤ 3 → x1.toInt = val3 V p k) → (0 ≤ x1.toInt ∧ x1.toInt ≤ 9999) → f_readNumber_9 N x1 x2 x3 I A = some o → (nd3 V p = 3 ∧ 48 ≤ V (p + 3) ∧ V (p + 3) ≤ 57 ∧ o.1.toInt = -1) ∨ (¬ (nd3 V p = 3 ∧ 48 ≤ V (p + 3) ∧ V (p + 3) ≤ 57) ∧ o.1.toInt = numC V p ∧ VJ o.2.1 o.2.2 b n V (p + nd3 V p) m) := by
  intro N
  induction N with
  | zero => intro x1 x2 I A k _ _ _ _ _ _ hf; cases hf
  | succ N ih =>
    intro x1 x2 I A k hk hk4 hJ hd h1 hb1 hf
    have hf : f_readNumber_9s (f_readNumber_9 N) x1 x2 x3 I A = some o := hf
    have b0 := hJ.2.2.2.2.2.2.2.1 (p + k)
    have h38 := hJ.2.2.2.1
    have hb := hJ.2.2.1
    have z1 : (-1 : Int32).toInt = -1 := rfl
    have stop : (k = 4 ∨ ¬ (48 ≤ V (p + k) ∧ V (p + k) ≤ 57)) → f_readNumber_61 x1 x2 x3 I A = some o → (nd3 V p = 3 ∧ 48 ≤ V (p + 3) ∧ V (p + 3) ≤ 57 ∧ o.1.toInt = -1) ∨ (¬ (nd3 V p = 3 ∧ 48 ≤ V (p + 3) ∧ V (p + 3) ≤ 57) ∧ o.1.toInt = numC V p ∧ VJ o.2.1 o.2.2 b n V (p + nd3 V p) m) := by
      intro hs hf
      by_cases k4 : k = 4
      · have d3 : nd3 V p = 3 := nd3_e (by decide) (fun j j0 j1 => hd j j0 (by omega)) (Or.inl rfl)
        have d4 := hd 3 (by decide) (by omega)
        refine Or.inl ⟨d3, d4.1, d4.2, ?_⟩
        unfold f_readNumber_61 at hf
        rcases m_ifE hf with ⟨c1, hf⟩ | ⟨c1, hf⟩
        · skip
          replace c1 := ti_eqP (a := x2) (b := (0 : Int32)) c1 rfl (show (0 : Int32).toInt = 0 from rfl)
          unfold f_readNumber_81 at hf
          unfold f_readNumber_86 at hf
          cases hf
          try dsimp only
          first
          | exact z1
          | omega
        · skip
          replace c1 := ti_eqN (a := x2) (b := (0 : Int32)) c1 rfl (show (0 : Int32).toInt = 0 from rfl)
          rcases m_ifE hf with ⟨c2, hf⟩ | ⟨c2, hf⟩
          · skip
            replace c2 := ti_ltP (a := (3 : Int32)) (b := x2) c2 (show (3 : Int32).toInt = 3 from rfl) rfl
            unfold f_readNumber_81 at hf
            unfold f_readNumber_86 at hf
            cases hf
            try dsimp only
            first
            | exact z1
            | omega
          · skip
            replace c2 := ti_ltN (a := (3 : Int32)) (b := x2) c2 (show (3 : Int32).toInt = 3 from rfl) rfl
            rcases m_ifE hf with ⟨c3, hf⟩ | ⟨c3, hf⟩
            · skip
              replace c3 := ti_leP (a := x2) (b := (1 : Int32)) c3 rfl (show (1 : Int32).toInt = 1 from rfl)
              unfold f_readNumber_85 at hf
              unfold f_readNumber_86 at hf
              cases hf
              try dsimp only
              first
              | exact z1
              | omega
            · skip
              replace c3 := ti_leN (a := x2) (b := (1 : Int32)) c3 rfl (show (1 : Int32).toInt = 1 from rfl)
              rcases m_ifE hf with ⟨c4, hf⟩ | ⟨c4, hf⟩
              · skip
                replace c4 := ti_eqP (a := x3) (b := (48 : Int32)) c4 rfl (show (48 : Int32).toInt = 48 from rfl)
                unfold f_readNumber_81 at hf
                unfold f_readNumber_86 at hf
                cases hf
                try dsimp only
                first
                | exact z1
                | omega
              · skip
                replace c4 := ti_eqN (a := x3) (b := (48 : Int32)) c4 rfl (show (48 : Int32).toInt = 48 from rfl)
                unfold f_readNumber_85 at hf
                unfold f_readNumber_86 at hf
                cases hf
                try dsimp only
                first
                | exact z1
                | omega
      · have d3 : nd3 V p = k := nd3_e (by omega) hd (Or.inr (by omega))
        have h1' := h1 (by omega)
        refine Or.inr ⟨fun h => ?_, ?_, ?_⟩
        · have e3 : k = 3 := by omega
          rw [e3] at hs
          omega
        · unfold numC
          rw [d3]
          unfold f_readNumber_61 at hf
          rcases m_ifE hf with ⟨c1, hf⟩ | ⟨c1, hf⟩
          · skip
            replace c1 := ti_eqP (a := x2) (b := (0 : Int32)) c1 rfl (show (0 : Int32).toInt = 0 from rfl)
            unfold f_readNumber_81 at hf
            unfold f_readNumber_86 at hf
            cases hf
            try dsimp only
            rw [if_pos (by omega)]; rfl
          · skip
            replace c1 := ti_eqN (a := x2) (b := (0 : Int32)) c1 rfl (show (0 : Int32).toInt = 0 from rfl)
            rcases m_ifE hf with ⟨c2, hf⟩ | ⟨c2, hf⟩
            · skip
              replace c2 := ti_ltP (a := (3 : Int32)) (b := x2) c2 (show (3 : Int32).toInt = 3 from rfl) rfl
              unfold f_readNumber_81 at hf
              unfold f_readNumber_86 at hf
              cases hf
              try dsimp only
              omega
            · skip
              replace c2 := ti_ltN (a := (3 : Int32)) (b := x2) c2 (show (3 : Int32).toInt = 3 from rfl) rfl
              rcases m_ifE hf with ⟨c3, hf⟩ | ⟨c3, hf⟩
              · skip
                replace c3 := ti_leP (a := x2) (b := (1 : Int32)) c3 rfl (show (1 : Int32).toInt = 1 from rfl)
                unfold f_readNumber_85 at hf
                unfold f_readNumber_86 at hf
                cases hf
                try dsimp only
                rw [if_neg (by omega)]; exact h1'
              · skip
                replace c3 := ti_leN (a := x2) (b := (1 : Int32)) c3 rfl (show (1 : Int32).toInt = 1 from rfl)
                rcases m_ifE hf with ⟨c4, hf⟩ | ⟨c4, hf⟩
                · skip
                  replace c4 := ti_eqP (a := x3) (b := (48 : Int32)) c4 rfl (show (48 : Int32).toInt = 48 from rfl)
                  unfold f_readNumber_81 at hf
                  unfold f_readNumber_86 at hf
                  cases hf
                  try dsimp only
                  rw [if_pos (by omega)]; rfl
                · skip
                  replace c4 := ti_eqN (a := x3) (b := (48 : Int32)) c4 rfl (show (48 : Int32).toInt = 48 from rfl)
                  unfold f_readNumber_85 at hf
                  unfold f_readNumber_86 at hf
                  cases hf
                  try dsimp only
                  rw [if_neg (by omega)]; exact h1'
        · rw [d3]
          unfold f_readNumber_61 at hf
          rcases m_ifE hf with ⟨c1, hf⟩ | ⟨c1, hf⟩
          · skip
            replace c1 := ti_eqP (a := x2) (b := (0 : Int32)) c1 rfl (show (0 : Int32).toInt = 0 from rfl)
            unfold f_readNumber_81 at hf
            unfold f_readNumber_86 at hf
            cases hf
            try dsimp only
            exact hJ
          · skip
            replace c1 := ti_eqN (a := x2) (b := (0 : Int32)) c1 rfl (show (0 : Int32).toInt = 0 from rfl)
            rcases m_ifE hf with ⟨c2, hf⟩ | ⟨c2, hf⟩
            · skip
              replace c2 := ti_ltP (a := (3 : Int32)) (b := x2) c2 (show (3 : Int32).toInt = 3 from rfl) rfl
              unfold f_readNumber_81 at hf
              unfold f_readNumber_86 at hf
              cases hf
              try dsimp only
              exact hJ
            · skip
              replace c2 := ti_ltN (a := (3 : Int32)) (b := x2) c2 (show (3 : Int32).toInt = 3 from rfl) rfl
              rcases m_ifE hf with ⟨c3, hf⟩ | ⟨c3, hf⟩
              · skip
                replace c3 := ti_leP (a := x2) (b := (1 : Int32)) c3 rfl (show (1 : Int32).toInt = 1 from rfl)
                unfold f_readNumber_85 at hf
                unfold f_readNumber_86 at hf
                cases hf
                try dsimp only
                exact hJ
              · skip
                replace c3 := ti_leN (a := x2) (b := (1 : Int32)) c3 rfl (show (1 : Int32).toInt = 1 from rfl)
                rcases m_ifE hf with ⟨c4, hf⟩ | ⟨c4, hf⟩
                · skip
                  replace c4 := ti_eqP (a := x3) (b := (48 : Int32)) c4 rfl (show (48 : Int32).toInt = 48 from rfl)
                  unfold f_readNumber_81 at hf
                  unfold f_readNumber_86 at hf
                  cases hf
                  try dsimp only
                  exact hJ
                · skip
                  replace c4 := ti_eqN (a := x3) (b := (48 : Int32)) c4 rfl (show (48 : Int32).toInt = 48 from rfl)
                  unfold f_readNumber_85 at hf
                  unfold f_readNumber_86 at hf
                  cases hf
                  try dsimp only
                  exact hJ
    have vb : k ≤ 3 → 0 ≤ x1.toInt ∧ x1.toInt ≤ 999 ∧ (k ≤ 2 → x1.toInt ≤ 99) := fun h => by
      rw [h1 h]
      exact val3_b ⟨hk4.1, h⟩ hd
    unfold f_readNumber_9s at hf
    obtain ⟨r1, h_r1, hf⟩ := m_clR hf (fun _ h => rro_sign h)
    have p_r1 := pc_sign h_r1
    dsimp only at p_r1
    rw [vj_sg hJ] at p_r1
    rcases m_ifE hf with ⟨c1, hf⟩ | ⟨c1, hf⟩
    · skip
      replace c1 := ti_ltP (a := r1) (b := (48 : Int32)) c1 rfl (show (48 : Int32).toInt = 48 from rfl)
      exact stop (Or.inr (by omega)) hf
    · skip
      replace c1 := ti_ltN (a := r1) (b := (48 : Int32)) c1 rfl (show (48 : Int32).toInt = 48 from rfl)
      obtain ⟨r2, h_r2, hf⟩ := m_clR hf (fun _ h => rro_sign h)
      have p_r2 := pc_sign h_r2
      dsimp only at p_r2
      rw [vj_sg hJ] at p_r2
      rcases m_ifE hf with ⟨c2, hf⟩ | ⟨c2, hf⟩
      · skip
        replace c2 := ti_ltP (a := (57 : Int32)) (b := r2) c2 (show (57 : Int32).toInt = 57 from rfl) rfl
        exact stop (Or.inr (by omega)) hf
      · skip
        replace c2 := ti_ltN (a := (57 : Int32)) (b := r2) c2 (show (57 : Int32).toInt = 57 from rfl) rfl
        rcases m_ifE hf with ⟨c3, hf⟩ | ⟨c3, hf⟩
        · skip
          replace c3 := ti_leP (a := (4 : Int32)) (b := x2) c3 (show (4 : Int32).toInt = 4 from rfl) rfl
          exact stop (Or.inl (by omega)) hf
        · skip
          replace c3 := ti_leN (a := (4 : Int32)) (b := x2) c3 (show (4 : Int32).toInt = 4 from rfl) rfl
          have vb3 := vb (by omega)
          obtain ⟨v3, e_v3, hf⟩ := m_bndE hf
          have t_v3 : v3.toInt = 10 * x1.toInt := ti_mul e_v3 (show (10 : Int32).toInt = 10 from rfl) rfl (by omega) (by omega)
          obtain ⟨r4, h_r4, hf⟩ := m_clR hf (fun _ h => rro_sign h)
          have p_r4 := pc_sign h_r4
          dsimp only at p_r4
          rw [vj_sg hJ] at p_r4
          obtain ⟨v5, e_v5, hf⟩ := m_bndE hf
          have t_v5 : v5.toInt = v3.toInt + r4.toInt := ti_add e_v5 rfl rfl (by omega) (by omega)
          obtain ⟨v6, e_v6, hf⟩ := m_bndE hf
          have t_v6 : v6.toInt = v5.toInt - 48 := ti_sub e_v6 rfl (show (48 : Int32).toInt = 48 from rfl) (by omega) (by omega)
          obtain ⟨v7, e_v7, hf⟩ := m_bndE hf
          have t_v7 : v7.toInt = x2.toInt + 1 := ti_add e_v7 rfl (show (1 : Int32).toInt = 1 from rfl) (by omega) (by omega)
          obtain ⟨v8, e_v8, hf⟩ := m_bndE hf
          have t_v8 : v8.toInt = (I 38).toInt + 1 := ti_add e_v8 rfl (show (1 : Int32).toInt = 1 from rfl) (by omega) (by omega)
          obtain ⟨I9, e_I9, hf⟩ := m_bndE hf
          have J9 : VJ I9 A b n V (p + (k + 1)) m := vj_at hJ e_I9 (by omega) (by omega)
          refine ih v6 v7 I9 A (k + 1) (by omega) (by omega) J9 (fun j j0 j1 => ?_) (fun h => ?_) (by omega) hf
          · by_cases e : j = k
            · rw [e]; omega
            · exact hd j j0 (by omega)
          · rw [val3_s (by omega), ← h1 (by omega)]
            omega
theorem v_number (hp : p ≤ 900) (hJ : VJ I A b n V p m) (hf : f_readNumber I A = some o) : (nd3 V p = 3 ∧ 48 ≤ V (p + 3) ∧ V (p + 3) ≤ 57 ∧ o.1.toInt = -1) ∨ (¬ (nd3 V p = 3 ∧ 48 ≤ V (p + 3) ∧ V (p + 3) ≤ 57) ∧ o.1.toInt = numC V p ∧ VJ o.2.1 o.2.2 b n V (p + nd3 V p) m) := by
  have hf : f_readNumber_0 I A = some o := hf
  have z0 : (0 : Int32).toInt = 0 := rfl
  unfold f_readNumber_0 at hf
  obtain ⟨r1, h_r1, hf⟩ := m_clR hf (fun _ h => rro_sign h)
  have p_r1 := pc_sign h_r1
  dsimp only at p_r1
  rw [vj_sg hJ] at p_r1
  exact nr_c ⟨hJ.2.2.2.2.2.1.1, hp⟩ p_r1 mFuel 0 0 I A 0 rfl (by decide) (by rw [Int.add_zero]; exact hJ) (fun j j0 j1 => by omega) (fun _ => rfl) (by decide) hf
theorem sh_1 : ∀ i : Nat, i < 4 → ((1 : Int32) <<< (nI i &&& 31)).toInt = 2 ^ i := by decide +kernel
theorem rr_c : ∀ (N : Nat) (x1 : Int32) (I : Nat → Int32) (i : Nat), x1.toInt = (i : Int) → i ≤ 4 → VJ I A b n V (rgN V p i).1 m → (I 26).toInt = (rgN V p i).2 → (0 ≤ p ∧ p ≤ 900) → f_readRights_23 N x1 I A = some o → (o.1.toInt = 0 ∨ o.1.toInt = 1) ∧ (o.1.toInt = 1 ↔ (rgN V p 4).2 ≠ 0) ∧ VJ o.2.1 o.2.2 b n V (rgN V p 4).1 m ∧ (o.2.1 26).toInt = (rgN V p 4).2 := by
  intro N
  induction N with
  | zero => intro x1 I i _ _ _ _ _ hf; cases hf
  | succ N ih =>
    intro x1 I i hx hi hJ h26 hp hf
    have hf : f_readRights_23s (f_readRights_23 N) x1 I A = some o := hf
    have z0 : (0 : Int32).toInt = 0 := rfl
    obtain ⟨b1, b2, b3, b4⟩ := rgN_b (V := V) (p := p) i hi
    have h38 := hJ.2.2.2.1
    have hb := hJ.2.2.1
    have es : rgN V p (i + 1) = rgS V i (rgN V p i) := rfl
    have b16 : i < 4 → (rgN V p i).2 < 16 ∧ (2 : Int) ^ i ≤ 16 ∧ (0 : Int) ≤ 2 ^ i := fun h => by
      have : i = 0 ∨ i = 1 ∨ i = 2 ∨ i = 3 := by omega
      rcases this with h | h | h | h <;> subst h <;> (have b5 := b4; simp at b5; refine ⟨by omega, by decide, by decide⟩)
    have nxt : ∀ I1, VJ I1 A b n V (rgN V p (i + 1)).1 m → (I1 26).toInt = (rgN V p (i + 1)).2 → i < 4 → f_readRights_88 (f_readRights_23 N) x1 I1 A = some o → (o.1.toInt = 0 ∨ o.1.toInt = 1) ∧ (o.1.toInt = 1 ↔ (rgN V p 4).2 ≠ 0) ∧ VJ o.2.1 o.2.2 b n V (rgN V p 4).1 m ∧ (o.2.1 26).toInt = (rgN V p 4).2 := by
      intro I1 J1 h1 hlt hf
      unfold f_readRights_88 at hf
      obtain ⟨v1, e1, hf⟩ := m_bndE hf
      have t1 : v1.toInt = x1.toInt + 1 := ti_add e1 rfl (show (1 : Int32).toInt = 1 from rfl) (by omega) (by omega)
      exact ih v1 I1 (i + 1) (by omega) (by omega) J1 h1 hp hf
    have mid : ∀ t0 t1 : Int32, t0.toInt = (strL 2).getD i 0 → t1.toInt = V (rgN V p i).1 → i < 4 → f_readRights_63 (f_readRights_23 N) x1 t0 t1 I A = some o → (o.1.toInt = 0 ∨ o.1.toInt = 1) ∧ (o.1.toInt = 1 ↔ (rgN V p 4).2 ≠ 0) ∧ VJ o.2.1 o.2.2 b n V (rgN V p 4).1 m ∧ (o.2.1 26).toInt = (rgN V p 4).2 := by
      intro t0 t1 ht0 ht1 hlt hf
      obtain ⟨c16, c17, c18⟩ := b16 hlt
      unfold f_readRights_63 at hf
      rcases m_ifE hf with ⟨c1, hf⟩ | ⟨c1, hf⟩
      · replace c1 := ti_eqP (a := t1) (b := t0) c1 rfl rfl
        have er : rgS V i (rgN V p i) = ((rgN V p i).1 + 1, (rgN V p i).2 + 2 ^ i) := if_pos (by omega)
        obtain ⟨v1, e1, hf⟩ := m_bndE hf
        obtain ⟨v2, e2, hf⟩ := m_bndE hf
        obtain ⟨I3, e3, hf⟩ := m_bndE hf
        obtain ⟨v4, e4, hf⟩ := m_bndE hf
        obtain ⟨I5, e5, hf⟩ := m_bndE hf
        have hxx : x1 = nI i := by
          apply Int32.toInt_inj.1
          rw [nI_toInt (by omega)]
          exact hx
        have t1' : v1.toInt = 2 ^ i := by rw [e1, hxx]; exact sh_1 i hlt
        have t2 : v2.toInt = (I 26).toInt + v1.toInt := ti_add e2 rfl rfl (by omega) (by omega)
        have J3 : VJ I3 A b n V (rgN V p i).1 m := vj_w hJ e3 (tf_b v2).1 (tf_b v2).2 (by decide) (by decide)
        have h338 := J3.2.2.2.1
        have t4 : v4.toInt = (I3 38).toInt + 1 := ti_add e4 rfl (show (1 : Int32).toInt = 1 from rfl) (by omega) (by omega)
        have J5 : VJ I5 A b n V ((rgN V p i).1 + 1) m := vj_at J3 e5 (by omega) (by omega)
        refine nxt I5 ?_ ?_ hlt hf
        · rw [es, er]; exact J5
        · rw [es, er, e5, upd_ne (by decide), e3, upd_self, t2, h26, t1']
      · replace c1 := ti_eqN (a := t1) (b := t0) c1 rfl rfl
        have er : rgS V i (rgN V p i) = rgN V p i := if_neg (by omega)
        refine nxt I ?_ ?_ hlt hf
        · rw [es, er]; exact hJ
        · rw [es, er]; exact h26
    unfold f_readRights_23s at hf
    rcases m_ifE hf with ⟨c1, hf⟩ | ⟨c1, hf⟩
    · skip
      replace c1 := ti_leP (a := (4 : Int32)) (b := x1) c1 (show (4 : Int32).toInt = 4 from rfl) rfl
      have e4 : i = 4 := by omega
      subst e4
      rcases m_ifE hf with ⟨c2, hf⟩ | ⟨c2, hf⟩
      · skip
        replace c2 := ti_leP (a := (I 26)) (b := (0 : Int32)) c2 rfl (show (0 : Int32).toInt = 0 from rfl)
        unfold f_readRights_106 at hf
        obtain ⟨-, hf⟩ := m_chkE hf
        cases hf
        try dsimp only
        exact ⟨Or.inl rfl, ⟨fun h => absurd h (by decide), fun h => by omega⟩, hJ, h26⟩
      · skip
        replace c2 := ti_leN (a := (I 26)) (b := (0 : Int32)) c2 rfl (show (0 : Int32).toInt = 0 from rfl)
        unfold f_readRights_106 at hf
        obtain ⟨-, hf⟩ := m_chkE hf
        cases hf
        try dsimp only
        exact ⟨Or.inr rfl, ⟨fun _ => by omega, fun _ => rfl⟩, hJ, h26⟩
    · skip
      replace c1 := ti_leN (a := (4 : Int32)) (b := x1) c1 (show (4 : Int32).toInt = 4 from rfl) rfl
      obtain ⟨r1, h_r1, hf⟩ := m_clR hf (fun _ h => rro_sign h)
      have p_r1 := pc_sign h_r1
      dsimp only at p_r1
      rw [vj_sg hJ] at p_r1
      rcases m_ifE hf with ⟨c3, hf⟩ | ⟨c3, hf⟩
      · skip
        replace c3 := ti_eqP (a := x1) (b := (0 : Int32)) c3 rfl (show (0 : Int32).toInt = 0 from rfl)
        have e : i = 0 := by omega
        exact mid 75 r1 (by rw [e]; rfl) p_r1 (by omega) hf
      · skip
        replace c3 := ti_eqN (a := x1) (b := (0 : Int32)) c3 rfl (show (0 : Int32).toInt = 0 from rfl)
        rcases m_ifE hf with ⟨c4, hf⟩ | ⟨c4, hf⟩
        · skip
          replace c4 := ti_eqP (a := x1) (b := (1 : Int32)) c4 rfl (show (1 : Int32).toInt = 1 from rfl)
          have e : i = 1 := by omega
          exact mid 81 r1 (by rw [e]; rfl) p_r1 (by omega) hf
        · skip
          replace c4 := ti_eqN (a := x1) (b := (1 : Int32)) c4 rfl (show (1 : Int32).toInt = 1 from rfl)
          rcases m_ifE hf with ⟨c5, hf⟩ | ⟨c5, hf⟩
          · skip
            replace c5 := ti_eqP (a := x1) (b := (2 : Int32)) c5 rfl (show (2 : Int32).toInt = 2 from rfl)
            have e : i = 2 := by omega
            exact mid 107 r1 (by rw [e]; rfl) p_r1 (by omega) hf
          · skip
            replace c5 := ti_eqN (a := x1) (b := (2 : Int32)) c5 rfl (show (2 : Int32).toInt = 2 from rfl)
            have e : i = 3 := by omega
            exact mid 113 r1 (by rw [e]; rfl) p_r1 (by omega) hf
theorem v_rights (hJ : VJ I A b n V p m) (hp : p ≤ 900) (hf : f_readRights I A = some o) : (o.1.toInt = 0 ∨ o.1.toInt = 1) ∧ (o.1.toInt = 1 ↔ V p = 45 ∨ (rgV V p).2 ≠ 0) ∧ VJ o.2.1 o.2.2 b n V (rgV V p).1 m ∧ (o.2.1 26).toInt = (rgV V p).2 := by
  have hf : f_readRights_0 I A = some o := hf
  have z0 : (0 : Int32).toInt = 0 := rfl
  unfold f_readRights_0 at hf
  obtain ⟨I1, e_I1, hf⟩ := m_bndE hf
  have J1 : VJ I1 A b n V p m := vj_w hJ e_I1 (tf_b _).1 (tf_b _).2 (by decide) (by decide)
  have h1 : (I1 26).toInt = 0 := by rw [e_I1, upd_self]; rfl
  obtain ⟨r2, h_r2, hf⟩ := m_clR hf (fun _ h => rro_sign h)
  have p_r2 := pc_sign h_r2
  dsimp only at p_r2
  rw [vj_sg J1] at p_r2
  rcases m_ifE hf with ⟨c1, hf⟩ | ⟨c1, hf⟩
  · skip
    replace c1 := ti_eqP (a := r2) (b := (45 : Int32)) c1 rfl (show (45 : Int32).toInt = 45 from rfl)
    obtain ⟨⟨r3, Ic3, Ac3⟩, h_r3, hf⟩ := m_clE hf
    dsimp only at hf
    obtain ⟨J3, b3, g3⟩ := v_pass J1 (by omega) h_r3
    dsimp only at J3 b3 g3
    have F3 := (fw_pass h_r3).1 26 (by decide)
    dsimp only at F3
    have e9 : rgV V p = (p + 1, 0) := if_pos (by omega)
    obtain ⟨-, hf⟩ := m_chkE hf
    cases hf
    try dsimp only
    rw [e9]
    exact ⟨b3, ⟨fun _ => Or.inl (by omega), fun _ => g3.2 (by have z45 : (45 : Int32).toInt = 45 := rfl; omega)⟩, J3, by rw [F3]; exact h1⟩
  · skip
    replace c1 := ti_eqN (a := r2) (b := (45 : Int32)) c1 rfl (show (45 : Int32).toInt = 45 from rfl)
    have e9 : rgV V p = rgN V p 4 := if_neg (by omega)
    obtain ⟨a, c, d, e⟩ := rr_c (p := p) mFuel 0 I1 0 rfl (by decide) J1 h1 ⟨hJ.2.2.2.2.2.1.1, hp⟩ hf
    rw [e9]
    exact ⟨a, ⟨fun h => Or.inr (c.1 h), fun h => c.2 (h.resolve_left (by omega))⟩, d, e⟩
theorem v_passed (hJ : VJ I A b n V p m) (hp : p ≤ 900) (hf : f_readPassed I A = some o) : (o.1.toInt = 0 ∨ o.1.toInt = 1) ∧ (o.1.toInt = 1 ↔ V p = 45 ∨ (psV V p).2 ≠ -1) ∧ VJ o.2.1 o.2.2 b n V (psV V p).1 m ∧ (o.2.1 27).toInt = (psV V p).2 := by
  have hf : f_readPassed_0 I A = some o := hf
  have z1 : (-1 : Int32).toInt = -1 := rfl
  have z0 : (0 : Int32).toInt = 0 := rfl
  have hp0 := hJ.2.2.2.2.2.1
  have hb := hJ.2.2.1
  have fin : ∀ (t0 : Int32) I1, V p ≠ 45 → VJ I1 A b n V (p + 2) m → t0.toInt = sqO (V p) (V (p + 1)) → f_readPassed_88 t0 I1 A = some o → (o.1.toInt = 0 ∨ o.1.toInt = 1) ∧ (o.1.toInt = 1 ↔ V p = 45 ∨ (psV V p).2 ≠ -1) ∧ VJ o.2.1 o.2.2 b n V (psV V p).1 m ∧ (o.2.1 27).toInt = (psV V p).2 := by
    intro t0 I1 hn J1 ht hf
    have e9 : psV V p = (p + 2, sqO (V p) (V (p + 1))) := if_neg hn
    have sb : -1 ≤ sqO (V p) (V (p + 1)) := by unfold sqO; split <;> omega
    rw [e9]
    unfold f_readPassed_88 at hf
    obtain ⟨I2, e2, hf⟩ := m_bndE hf
    have J2 : VJ I2 A b n V (p + 2) m := vj_w J1 e2 (tf_b _).1 (tf_b _).2 (by decide) (by decide)
    have h2 : I2 27 = t0 := by rw [e2, upd_self]
    rw [h2] at hf
    unfold f_readPassed_103 at hf
    rcases m_ifE hf with ⟨c1, hf⟩ | ⟨c1, hf⟩
    · replace c1 := ti_ltP (a := t0) (b := (0 : Int32)) c1 rfl rfl
      obtain ⟨-, hf⟩ := m_chkE hf
      cases hf
      exact ⟨Or.inl rfl, ⟨fun h => absurd (show (0 : Int32).toInt = 1 from h) (by decide), fun h => by rcases h with h | h; exact absurd h hn; exact absurd (show sqO (V p) (V (p + 1)) = -1 by omega) h⟩, J2, by show (I2 27).toInt = sqO (V p) (V (p + 1)); rw [h2]; exact ht⟩
    · replace c1 := ti_ltN (a := t0) (b := (0 : Int32)) c1 rfl rfl
      obtain ⟨-, hf⟩ := m_chkE hf
      cases hf
      exact ⟨Or.inr rfl, ⟨fun _ => Or.inr (show sqO (V p) (V (p + 1)) ≠ -1 by omega), fun _ => rfl⟩, J2, by show (I2 27).toInt = sqO (V p) (V (p + 1)); rw [h2]; exact ht⟩
  unfold f_readPassed_0 at hf
  obtain ⟨I1, e_I1, hf⟩ := m_bndE hf
  have J1 : VJ I1 A b n V p m := vj_w hJ e_I1 (tf_b _).1 (tf_b _).2 (by decide) (by decide)
  have h1 : (I1 27).toInt = -1 := by rw [e_I1, upd_self]; rfl
  have h38 := J1.2.2.2.1
  have b0 := J1.2.2.2.2.2.2.2.1 p
  have b1 := J1.2.2.2.2.2.2.2.1 (p + 1)
  obtain ⟨r2, h_r2, hf⟩ := m_clR hf (fun _ h => rro_sign h)
  have p_r2 := pc_sign h_r2
  dsimp only at p_r2
  rw [vj_sg J1] at p_r2
  rcases m_ifE hf with ⟨c1, hf⟩ | ⟨c1, hf⟩
  · skip
    replace c1 := ti_eqP (a := r2) (b := (45 : Int32)) c1 rfl (show (45 : Int32).toInt = 45 from rfl)
    obtain ⟨⟨r13, Ic13, Ac13⟩, h_r13, hf⟩ := m_clE hf
    dsimp only at hf
    obtain ⟨J3, b3, g3⟩ := v_pass J1 (by omega) h_r13
    dsimp only at J3 b3 g3
    have F3 := (fw_pass h_r13).1 27 (by decide)
    dsimp only at F3
    have e9 : psV V p = (p + 1, -1) := if_pos (by omega)
    obtain ⟨-, hf⟩ := m_chkE hf
    cases hf
    try dsimp only
    rw [e9]
    exact ⟨b3, ⟨fun _ => Or.inl (by omega), fun _ => g3.2 (by have z45 : (45 : Int32).toInt = 45 := rfl; omega)⟩, J3, by rw [F3]; exact h1⟩
  · skip
    replace c1 := ti_eqN (a := r2) (b := (45 : Int32)) c1 rfl (show (45 : Int32).toInt = 45 from rfl)
    obtain ⟨r3, h_r3, hf⟩ := m_clR hf (fun _ h => rro_sign h)
    have p_r3 := pc_sign h_r3
    dsimp only at p_r3
    rw [vj_sg J1] at p_r3
    obtain ⟨v4, e_v4, hf⟩ := m_bndE hf
    have t_v4 : v4.toInt = r3.toInt - 97 := ti_sub e_v4 rfl (show (97 : Int32).toInt = 97 from rfl) (by omega) (by omega)
    obtain ⟨v5, e_v5, hf⟩ := m_bndE hf
    have t_v5 : v5.toInt = (I1 38).toInt + 1 := ti_add e_v5 rfl (show (1 : Int32).toInt = 1 from rfl) (by omega) (by omega)
    obtain ⟨I6, e_I6, hf⟩ := m_bndE hf
    have J6 : VJ I6 A b n V (p + 1) m := vj_at J1 e_I6 (by omega) (by omega)
    have h638 := J6.2.2.2.1
    obtain ⟨r7, h_r7, hf⟩ := m_clR hf (fun _ h => rro_sign h)
    have p_r7 := pc_sign h_r7
    dsimp only at p_r7
    rw [vj_sg J6] at p_r7
    obtain ⟨v8, e_v8, hf⟩ := m_bndE hf
    have t_v8 : v8.toInt = r7.toInt - 49 := ti_sub e_v8 rfl (show (49 : Int32).toInt = 49 from rfl) (by omega) (by omega)
    obtain ⟨v9, e_v9, hf⟩ := m_bndE hf
    have t_v9 : v9.toInt = (I6 38).toInt + 1 := ti_add e_v9 rfl (show (1 : Int32).toInt = 1 from rfl) (by omega) (by omega)
    obtain ⟨I10, e_I10, hf⟩ := m_bndE hf
    have J10 : VJ I10 A b n V (p + 2) m := vj_at J6 e_I10 (by omega) (by omega)
    have n45 : V p ≠ 45 := by omega
    rcases m_ifE hf with ⟨c2, hf⟩ | ⟨c2, hf⟩
    · skip
      replace c2 := ti_ltP (a := v4) (b := (0 : Int32)) c2 rfl (show (0 : Int32).toInt = 0 from rfl)
      exact fin (-1) I10 n45 J10 (by unfold sqO; rw [if_neg (by omega)]; rfl) hf
    · skip
      replace c2 := ti_ltN (a := v4) (b := (0 : Int32)) c2 rfl (show (0 : Int32).toInt = 0 from rfl)
      rcases m_ifE hf with ⟨c3, hf⟩ | ⟨c3, hf⟩
      · skip
        replace c3 := ti_leP (a := (8 : Int32)) (b := v4) c3 (show (8 : Int32).toInt = 8 from rfl) rfl
        exact fin (-1) I10 n45 J10 (by unfold sqO; rw [if_neg (by omega)]; rfl) hf
      · skip
        replace c3 := ti_leN (a := (8 : Int32)) (b := v4) c3 (show (8 : Int32).toInt = 8 from rfl) rfl
        rcases m_ifE hf with ⟨c4, hf⟩ | ⟨c4, hf⟩
        · skip
          replace c4 := ti_ltP (a := v8) (b := (0 : Int32)) c4 rfl (show (0 : Int32).toInt = 0 from rfl)
          exact fin (-1) I10 n45 J10 (by unfold sqO; rw [if_neg (by omega)]; rfl) hf
        · skip
          replace c4 := ti_ltN (a := v8) (b := (0 : Int32)) c4 rfl (show (0 : Int32).toInt = 0 from rfl)
          rcases m_ifE hf with ⟨c5, hf⟩ | ⟨c5, hf⟩
          · skip
            replace c5 := ti_leP (a := (8 : Int32)) (b := v8) c5 (show (8 : Int32).toInt = 8 from rfl) rfl
            exact fin (-1) I10 n45 J10 (by unfold sqO; rw [if_neg (by omega)]; rfl) hf
          · skip
            replace c5 := ti_leN (a := (8 : Int32)) (b := v8) c5 (show (8 : Int32).toInt = 8 from rfl) rfl
            obtain ⟨v11, e_v11, hf⟩ := m_bndE hf
            have t_v11 : v11.toInt = 8 * v8.toInt := ti_mul e_v11 (show (8 : Int32).toInt = 8 from rfl) rfl (by omega) (by omega)
            obtain ⟨v12, e_v12, hf⟩ := m_bndE hf
            have t_v12 : v12.toInt = v11.toInt + v4.toInt := ti_add e_v12 rfl rfl (by omega) (by omega)
            exact fin v12 I10 n45 J10 (by unfold sqO; rw [if_pos (by omega)]; omega) hf
end VJS
end
section
section MST
variable {I : Nat → Int32} {A : Nat → Nat → Int32} {m : Int → Int} {o : Int32 × MS} {sd rt ps : Int}
/-- a position as the reference holds it -/
noncomputable def RPo (I : Nat → Int32) (A : Nat → Nat → Int32) (m : Int → Int) (sd rt ps : Int) : Prop := TJ I ∧ TK A ∧ mR A = m ∧ MBd m ∧ (I 25).toInt = sd ∧ (sd = 0 ∨ sd = 1) ∧ (I 26).toInt = rt ∧ (0 ≤ rt ∧ rt ≤ 15) ∧ (I 27).toInt = ps ∧ (-1 ≤ ps ∧ ps ≤ 63)
theorem sh_01 {t i v v3 : Int32} (e2 : v = t >>> (i &&& 31)) (e3 : v3 = v &&& 1) (ht : 0 ≤ t.toInt ∧ t.toInt ≤ 15) (hi : 0 ≤ i.toInt ∧ i.toInt ≤ 3) : v3.toInt = 0 ∨ v3.toInt = 1 := by
  have h : i = 0 ∨ i = 1 ∨ i = 2 ∨ i = 3 := by
    have h4 : i.toInt = 0 ∨ i.toInt = 1 ∨ i.toInt = 2 ∨ i.toInt = 3 := by omega
    rcases h4 with h | h | h | h
    · exact Or.inl (Int32.toInt_inj.mp h)
    · exact Or.inr (Or.inl (Int32.toInt_inj.mp h))
    · exact Or.inr (Or.inr (Or.inl (Int32.toInt_inj.mp h)))
    · exact Or.inr (Or.inr (Or.inr (Int32.toInt_inj.mp h)))
  rw [e3, e2]
  rcases h with h | h | h | h
  · subst h
    have k := sq_all (P := fun x => ((x >>> ((0 : Int32) &&& 31)) &&& 1).toInt = x.toInt % 2) (by decide +kernel) (x := t) (by omega)
    omega
  · subst h
    have k := sq_all (P := fun x => ((x >>> ((1 : Int32) &&& 31)) &&& 1).toInt = x.toInt / 2 % 2) (by decide +kernel) (x := t) (by omega)
    omega
  · subst h
    have k := sq_all (P := fun x => ((x >>> ((2 : Int32) &&& 31)) &&& 1).toInt = x.toInt / 4 % 2) (by decide +kernel) (x := t) (by omega)
    omega
  · subst h
    have k := sq_all (P := fun x => ((x >>> ((3 : Int32) &&& 31)) &&& 1).toInt = x.toInt / 8 % 2) (by decide +kernel) (x := t) (by omega)
    omega
theorem ms_320 {x3 t0 : Int32} (h : RPo I A m sd rt ps) (hps : 0 ≤ ps) (h3 : x3.toInt = 0 ∨ x3.toInt = 1) (hr : x3.toInt = 1 → ps / 8 = 5 - 3 * sd) (ht : t0.toInt = 2 * sd - 1) (hf : f_mayStand_320 x3 t0 I A = some o) : (o.1.toInt = 0 ∨ o.1.toInt = 1) ∧ (o.1.toInt = 1 ↔ x3.toInt = 1 ∧ pat m ps sd) := by
  obtain ⟨hI, hA, hm, hM, h25, hs, -, -, h27, hpb⟩ := h
  have z1 : (-1 : Int32).toInt = -1 := rfl
  have z2 : (1 : Int32).toInt = 1 := rfl
  unfold f_mayStand_320 at hf
  rcases m_ifE hf with ⟨c1, hf⟩ | ⟨c1, hf⟩
  · skip
    replace c1 := ti_eqP (a := x3) (b := (0 : Int32)) c1 rfl (show (0 : Int32).toInt = 0 from rfl)
    unfold f_mayStand_382 at hf
    unfold f_mayStand_383 at hf
    obtain ⟨-, hf⟩ := m_chkE hf
    cases hf
    try dsimp only
    exact ⟨Or.inl rfl, fun g => absurd g (by decide), fun g => by have := g.1; omega⟩
  · skip
    replace c1 := ti_eqN (a := x3) (b := (0 : Int32)) c1 rfl (show (0 : Int32).toInt = 0 from rfl)
    have hr2 := hr (by omega)
    obtain ⟨r1, h_r1, hf⟩ := m_clR hf (fun _ h => rro_step h)
    obtain ⟨-, b1, q1⟩ := ok_of (t_step (x0 := I 27) (x1 := (-1 : Int32)) (x2 := t0) hI hA (by omega) (by omega) (by omega)) h_r1
    dsimp only at b1 q1
    rw [z1, h27, ht] at q1
    obtain ⟨v2, e_v2, hf⟩ := m_bndE hf
    have t_v2 : v2.toInt = 8 * (I 25).toInt := ti_mul e_v2 (show (8 : Int32).toInt = 8 from rfl) rfl (by omega) (by omega)
    obtain ⟨v3, e_v3, hf⟩ := m_bndE hf
    have t_v3 : v3.toInt = 1 + v2.toInt := ti_add e_v3 (show (1 : Int32).toInt = 1 from rfl) rfl (by omega) (by omega)
    obtain ⟨r4, h_r4, hf⟩ := m_clR hf (fun _ h => rro_stands h)
    obtain ⟨-, b4, q4⟩ := ok_of (x_stands (x2 := v3) hI hA b1) h_r4
    dsimp only at b4 q4
    rw [hm] at q4
    have e4 : v3.toInt = 1 + 8 * sd := by omega
    rw [e4] at q4
    rcases m_ifE hf with ⟨c2, hf⟩ | ⟨c2, hf⟩
    · skip
      replace c2 := ti_eqP (a := r4) (b := (0 : Int32)) c2 rfl (show (0 : Int32).toInt = 0 from rfl)
      obtain ⟨r5, h_r5, hf⟩ := m_clR hf (fun _ h => rro_step h)
      obtain ⟨-, b5, q5⟩ := ok_of (t_step (x0 := I 27) (x1 := (1 : Int32)) (x2 := t0) hI hA (by omega) (by omega) (by omega)) h_r5
      dsimp only at b5 q5
      rw [z2, h27, ht] at q5
      obtain ⟨v6, e_v6, hf⟩ := m_bndE hf
      have t_v6 : v6.toInt = 8 * (I 25).toInt := ti_mul e_v6 (show (8 : Int32).toInt = 8 from rfl) rfl (by omega) (by omega)
      obtain ⟨v7, e_v7, hf⟩ := m_bndE hf
      have t_v7 : v7.toInt = 1 + v6.toInt := ti_add e_v7 (show (1 : Int32).toInt = 1 from rfl) rfl (by omega) (by omega)
      obtain ⟨r8, h_r8, hf⟩ := m_clR hf (fun _ h => rro_stands h)
      obtain ⟨-, b8, q8⟩ := ok_of (x_stands (x2 := v7) hI hA b5) h_r8
      dsimp only at b8 q8
      rw [hm] at q8
      have e8 : v7.toInt = 1 + 8 * sd := by omega
      rw [e8] at q8
      rcases m_ifE hf with ⟨c3, hf⟩ | ⟨c3, hf⟩
      · skip
        replace c3 := ti_eqP (a := r8) (b := (0 : Int32)) c3 rfl (show (0 : Int32).toInt = 0 from rfl)
        unfold f_mayStand_382 at hf
        unfold f_mayStand_383 at hf
        obtain ⟨-, hf⟩ := m_chkE hf
        cases hf
        try dsimp only
        refine ⟨Or.inl rfl, fun g => absurd g (by decide), fun g => ?_⟩
        obtain ⟨-, -, -, g | g⟩ := g
        · have e : r1.toInt = ps + (16 * sd - 8) - 1 := by omega
          have := q4.2 ⟨by omega, by rw [e]; exact g.2⟩
          omega
        · have e : r5.toInt = ps + (16 * sd - 8) + 1 := by omega
          have := q8.2 ⟨by omega, by rw [e]; exact g.2⟩
          omega
      · skip
        replace c3 := ti_eqN (a := r8) (b := (0 : Int32)) c3 rfl (show (0 : Int32).toInt = 0 from rfl)
        unfold f_mayStand_378 at hf
        unfold f_mayStand_383 at hf
        obtain ⟨-, hf⟩ := m_chkE hf
        cases hf
        try dsimp only
        refine ⟨Or.inr rfl, fun _ => ⟨by omega, by omega, by omega, Or.inr ?_⟩, fun _ => rfl⟩
        obtain ⟨g1, g2⟩ := q8.1 (by omega)
        have e : r5.toInt = ps + (16 * sd - 8) + 1 := by omega
        rw [e] at g2
        exact ⟨by omega, g2⟩
    · skip
      replace c2 := ti_eqN (a := r4) (b := (0 : Int32)) c2 rfl (show (0 : Int32).toInt = 0 from rfl)
      unfold f_mayStand_378 at hf
      unfold f_mayStand_383 at hf
      obtain ⟨-, hf⟩ := m_chkE hf
      cases hf
      try dsimp only
      refine ⟨Or.inr rfl, fun _ => ⟨by omega, by omega, by omega, Or.inl ?_⟩, fun _ => rfl⟩
      obtain ⟨g1, g2⟩ := q4.1 (by omega)
      have e : r1.toInt = ps + (16 * sd - 8) - 1 := by omega
      rw [e] at g2
      exact ⟨by omega, g2⟩
theorem ms_307 {t0 : Int32} (h : RPo I A m sd rt ps) (hps : 0 ≤ ps) (h3 : t0.toInt = 0 ∨ t0.toInt = 1) (hr : t0.toInt = 1 → ps / 8 = 5 - 3 * sd) (hf : f_mayStand_307 t0 I A = some o) : (o.1.toInt = 0 ∨ o.1.toInt = 1) ∧ (o.1.toInt = 1 ↔ t0.toInt = 1 ∧ pat m ps sd) := by
  have h25 := h.2.2.2.2.1
  have hs := h.2.2.2.2.2.1
  unfold f_mayStand_307 at hf
  have z1 : (-1 : Int32).toInt = -1 := rfl
  have z2 : (1 : Int32).toInt = 1 := rfl
  rcases m_ifE hf with ⟨c1, hf⟩ | ⟨c1, hf⟩
  · replace c1 := ti_eqP (a := I 25) (b := (0 : Int32)) c1 rfl (show (0 : Int32).toInt = 0 from rfl)
    exact ms_320 h hps h3 hr (by omega) hf
  · replace c1 := ti_eqN (a := I 25) (b := (0 : Int32)) c1 rfl (show (0 : Int32).toInt = 0 from rfl)
    exact ms_320 h hps h3 hr (by omega) hf
theorem ms_258 {x2 t0 : Int32} (h : RPo I A m sd rt ps) (hps : 0 ≤ ps) (h3 : t0.toInt = 0 ∨ t0.toInt = 1) (hr : t0.toInt = 1 → ps / 8 = 5 - 3 * sd) (h2 : x2.toInt = 8 - 16 * sd) (hf : f_mayStand_258 x2 t0 I A = some o) : (o.1.toInt = 0 ∨ o.1.toInt = 1) ∧ (o.1.toInt = 1 ↔ t0.toInt = 1 ∧ m (ps + (8 - 16 * sd)) = 0 ∧ m (ps - (8 - 16 * sd)) = 1 + 8 * (1 - sd) ∧ pat m ps sd) := by
  have hm := h.2.2.1
  have h25 := h.2.2.2.2.1
  have hs := h.2.2.2.2.2.1
  have h27 := h.2.2.2.2.2.2.2.2.1
  have hpb := h.2.2.2.2.2.2.2.2.2
  have z0 : (0 : Int32).toInt = 0 := rfl
  have z2 : (1 : Int32).toInt = 1 := rfl
  have no : (¬ (t0.toInt = 1 ∧ m (ps + (8 - 16 * sd)) = 0 ∧ m (ps - (8 - 16 * sd)) = 1 + 8 * (1 - sd))) → f_mayStand_306 I A = some o → (o.1.toInt = 0 ∨ o.1.toInt = 1) ∧ (o.1.toInt = 1 ↔ t0.toInt = 1 ∧ m (ps + (8 - 16 * sd)) = 0 ∧ m (ps - (8 - 16 * sd)) = 1 + 8 * (1 - sd) ∧ pat m ps sd) := fun hn hf => by
    obtain ⟨g1, g2⟩ := ms_307 (t0 := 0) h hps (Or.inl rfl) (fun g => absurd g (by decide)) hf
    refine ⟨g1, fun g => absurd (g2.1 g).1 (by decide), fun g => absurd ⟨g.1, g.2.1, g.2.2.1⟩ hn⟩
  unfold f_mayStand_258 at hf
  rcases m_ifE hf with ⟨c1, hf⟩ | ⟨c1, hf⟩
  · skip
    replace c1 := ti_eqP (a := t0) (b := (0 : Int32)) c1 rfl (show (0 : Int32).toInt = 0 from rfl)
    exact no (fun g => by have := g.1; omega) hf
  · skip
    replace c1 := ti_eqN (a := t0) (b := (0 : Int32)) c1 rfl (show (0 : Int32).toInt = 0 from rfl)
    have hr2 := hr (by omega)
    obtain ⟨v1, e_v1, hf⟩ := m_bndE hf
    have t_v1 : v1.toInt = (I 27).toInt + x2.toInt := ti_add e_v1 rfl rfl (by omega) (by omega)
    obtain ⟨-, hf⟩ := m_chkE hf
    obtain ⟨v2, e_v2, hf⟩ := m_bndE hf
    have q2 := mR_at e_v2 (by omega) (by omega)
    rw [hm, show v1.toInt = ps + (8 - 16 * sd) by omega] at q2
    rcases m_ifE hf with ⟨c2, hf⟩ | ⟨c2, hf⟩
    · skip
      replace c2 := ti_eqP (a := v2) (b := (0 : Int32)) c2 rfl (show (0 : Int32).toInt = 0 from rfl)
      obtain ⟨v3, e_v3, hf⟩ := m_bndE hf
      have t_v3 : v3.toInt = (I 27).toInt - x2.toInt := ti_sub e_v3 rfl rfl (by omega) (by omega)
      obtain ⟨-, hf⟩ := m_chkE hf
      obtain ⟨v4, e_v4, hf⟩ := m_bndE hf
      have q4 := mR_at e_v4 (by omega) (by omega)
      rw [hm, show v3.toInt = ps - (8 - 16 * sd) by omega] at q4
      obtain ⟨v5, e_v5, hf⟩ := m_bndE hf
      have t_v5 : v5.toInt = 1 - (I 25).toInt := ti_sub e_v5 (show (1 : Int32).toInt = 1 from rfl) rfl (by omega) (by omega)
      obtain ⟨v6, e_v6, hf⟩ := m_bndE hf
      have t_v6 : v6.toInt = 8 * v5.toInt := ti_mul e_v6 (show (8 : Int32).toInt = 8 from rfl) rfl (by omega) (by omega)
      obtain ⟨v7, e_v7, hf⟩ := m_bndE hf
      have t_v7 : v7.toInt = 1 + v6.toInt := ti_add e_v7 (show (1 : Int32).toInt = 1 from rfl) rfl (by omega) (by omega)
      rcases m_ifE hf with ⟨c3, hf⟩ | ⟨c3, hf⟩
      · skip
        replace c3 := ti_eqP (a := v4) (b := v7) c3 rfl rfl
        obtain ⟨g1, g2⟩ := ms_307 (t0 := 1) h hps (Or.inr rfl) (fun _ => hr2) hf
        refine ⟨g1, fun g => ⟨by omega, by omega, by omega, (g2.1 g).2⟩, fun g => g2.2 ⟨rfl, g.2.2.2⟩⟩
      · skip
        replace c3 := ti_eqN (a := v4) (b := v7) c3 rfl rfl
        exact no (fun g => by have := g.2.2; omega) hf
    · skip
      replace c2 := ti_eqN (a := v2) (b := (0 : Int32)) c2 rfl (show (0 : Int32).toInt = 0 from rfl)
      exact no (fun g => by have := g.2.1; omega) hf
theorem ms_218 {t0 : Int32} (h : RPo I A m sd rt ps) (hps : 0 ≤ ps) (h2 : t0.toInt = 8 - 16 * sd) (hf : f_mayStand_218 t0 I A = some o) : (o.1.toInt = 0 ∨ o.1.toInt = 1) ∧ (o.1.toInt = 1 ↔ SPs m sd ps) := by
  have hm := h.2.2.1
  have h25 := h.2.2.2.2.1
  have hs := h.2.2.2.2.2.1
  have h27 := h.2.2.2.2.2.2.2.2.1
  have hpb := h.2.2.2.2.2.2.2.2.2
  have z0 : (0 : Int32).toInt = 0 := rfl
  have z2 : (2 : Int32).toInt = 2 := rfl
  have z5 : (5 : Int32).toInt = 5 := rfl
  have no : ¬ (ps / 8 = 5 - 3 * sd ∧ m ps = 0) → f_mayStand_257 t0 I A = some o → (o.1.toInt = 0 ∨ o.1.toInt = 1) ∧ (o.1.toInt = 1 ↔ SPs m sd ps) := fun hn hf => by
    obtain ⟨g1, g2⟩ := ms_258 (t0 := 0) h hps (Or.inl rfl) (fun g => absurd g (by decide)) h2 hf
    refine ⟨g1, fun g => absurd (g2.1 g).1 (by decide), fun g => ?_⟩
    rcases g with g | g
    · omega
    · exact absurd ⟨g.1, g.2.1⟩ hn
  have mid : ∀ u v1 : Int32, u.toInt = 5 - 3 * sd → v1.toInt = ps / 8 → f_mayStand_238 t0 u v1 I A = some o → (o.1.toInt = 0 ∨ o.1.toInt = 1) ∧ (o.1.toInt = 1 ↔ SPs m sd ps) := by
    intro u v1 hu hv hf
    unfold f_mayStand_238 at hf
    rcases m_ifE hf with ⟨c1, hf⟩ | ⟨c1, hf⟩
    · replace c1 := ti_eqP (a := v1) (b := u) c1 rfl rfl
      obtain ⟨-, hf⟩ := m_chkE hf
      obtain ⟨v2, e2, hf⟩ := m_bndE hf
      have q2 := mR_at e2 (by omega) (by omega)
      rw [hm, h27] at q2
      rcases m_ifE hf with ⟨c2, hf⟩ | ⟨c2, hf⟩
      · replace c2 := ti_eqP (a := v2) (b := (0 : Int32)) c2 rfl rfl
        obtain ⟨g1, g2⟩ := ms_258 (t0 := 1) h hps (Or.inr rfl) (fun _ => by omega) h2 hf
        refine ⟨g1, fun g => ?_, fun g => ?_⟩
        · obtain ⟨-, a, b, c⟩ := g2.1 g
          exact Or.inr ⟨by omega, by omega, b, a, c⟩
        · rcases g with g | ⟨-, -, a, b, c⟩
          · omega
          · exact g2.2 ⟨rfl, b, a, c⟩
      · replace c2 := ti_eqN (a := v2) (b := (0 : Int32)) c2 rfl rfl
        exact no (fun g => by have := g.2; omega) hf
    · replace c1 := ti_eqN (a := v1) (b := u) c1 rfl rfl
      exact no (fun g => by have := g.1; omega) hf
  unfold f_mayStand_218 at hf
  obtain ⟨v1, e1, hf⟩ := m_bndE hf
  have t1 : v1.toInt = (I 27).toInt / 8 := ti_div e1 rfl (show (8 : Int32).toInt = 8 from rfl) (by omega) (by decide)
  rw [h27] at t1
  rcases m_ifE hf with ⟨c1, hf⟩ | ⟨c1, hf⟩
  · replace c1 := ti_eqP (a := I 25) (b := (0 : Int32)) c1 rfl rfl
    exact mid 5 v1 (by omega) t1 hf
  · replace c1 := ti_eqN (a := I 25) (b := (0 : Int32)) c1 rfl rfl
    exact mid 2 v1 (by omega) t1 hf
theorem ms_102 {G : Prop} (h : RPo I A m sd rt ps) : ∀ (N : Nat) (x1 x2 : Int32), (0 ≤ x2.toInt ∧ x2.toInt ≤ 4) → (x1.toInt = 0 ∨ x1.toInt = 1) → (x1.toInt = 1 ↔ G ∧ ∀ i, 0 ≤ i → i < x2.toInt → rOk m rt i) → f_mayStand_102 N x1 x2 I A = some o → (o.1.toInt = 0 ∨ o.1.toInt = 1) ∧ (o.1.toInt = 1 ↔ G ∧ RTo m rt ∧ SPs m sd ps) := by
  obtain ⟨hI, hA, hm, hM, h25, hs, h26, hrb, h27, hpb⟩ := id h
  have z0 : (0 : Int32).toInt = 0 := rfl
  have z8 : (8 : Int32).toInt = 8 := rfl
  have z8' : (-8 : Int32).toInt = -8 := rfl
  intro N
  induction N with
  | zero => intro x1 x2 _ _ _ hf; cases hf
  | succ N ih =>
    intro x1 x2 h2 h1 hg hf
    have hf : f_mayStand_102s (f_mayStand_102 N) x1 x2 I A = some o := hf
    have go : ∀ t0 : Int32, x2.toInt ≤ 3 → (t0.toInt = 0 ∨ t0.toInt = 1) → (t0.toInt = 1 ↔ x1.toInt = 1 ∧ rOk m rt x2.toInt) → f_mayStand_184 (f_mayStand_102 N) x2 t0 I A = some o → (o.1.toInt = 0 ∨ o.1.toInt = 1) ∧ (o.1.toInt = 1 ↔ G ∧ RTo m rt ∧ SPs m sd ps) := by
      intro t0 hle ht htg hf
      unfold f_mayStand_184 at hf
      obtain ⟨v1, e1, hf⟩ := m_bndE hf
      have t1 : v1.toInt = x2.toInt + 1 := ti_add e1 rfl (show (1 : Int32).toInt = 1 from rfl) (by omega) (by omega)
      refine ih t0 v1 (by omega) ht ?_ hf
      rw [htg, hg]
      constructor
      · rintro ⟨⟨g, a⟩, c⟩
        refine ⟨g, fun i i0 i1 => ?_⟩
        by_cases e : i = x2.toInt
        · rw [e]; exact c
        · exact a i i0 (by omega)
      · rintro ⟨g, a⟩
        exact ⟨⟨g, fun i i0 i1 => a i i0 (by omega)⟩, a x2.toInt h2.1 (by omega)⟩
    have yes : x2.toInt ≤ 3 → x1.toInt = 1 → rOk m rt x2.toInt → f_mayStand_179 (f_mayStand_102 N) x2 I A = some o → (o.1.toInt = 0 ∨ o.1.toInt = 1) ∧ (o.1.toInt = 1 ↔ G ∧ RTo m rt ∧ SPs m sd ps) := fun hle a b hf => go 1 hle (Or.inr rfl) ⟨fun _ => ⟨a, b⟩, fun _ => rfl⟩ hf
    have no : x2.toInt ≤ 3 → ¬ (x1.toInt = 1 ∧ rOk m rt x2.toInt) → f_mayStand_183 (f_mayStand_102 N) x2 I A = some o → (o.1.toInt = 0 ∨ o.1.toInt = 1) ∧ (o.1.toInt = 1 ↔ G ∧ RTo m rt ∧ SPs m sd ps) := fun hle a hf => go 0 hle (Or.inl rfl) ⟨fun g => absurd g (by decide), fun g => absurd g a⟩ hf
    have all : 4 ≤ x2.toInt → (x1.toInt = 1 ↔ G ∧ RTo m rt) := fun h4 => by
      rw [hg]
      exact ⟨fun g => ⟨g.1, fun i i0 i3 => g.2 i i0 (by omega)⟩, fun g => ⟨g.1, fun i i0 i1 => g.2 i i0 (by omega)⟩⟩
    have rook : ∀ v4 t0 t1 : Int32, x2.toInt ≤ 3 → x1.toInt = 1 → rb rt x2.toInt → v4.toInt = 8 * (x2.toInt / 2) → t0.toInt = (if x2.toInt % 2 = 0 then 7 else 0) → t1.toInt = 56 * (x2.toInt / 2) → m (4 + 56 * (x2.toInt / 2)) = 6 + 8 * (x2.toInt / 2) → f_mayStand_170 (f_mayStand_102 N) x2 v4 t0 t1 I A = some o → (o.1.toInt = 0 ∨ o.1.toInt = 1) ∧ (o.1.toInt = 1 ↔ G ∧ RTo m rt ∧ SPs m sd ps) := by
      intro v4 t0 t1 hle hx hrb2 h4 h0 h1 hk hf
      have b0 : 0 ≤ t0.toInt ∧ t0.toInt ≤ 7 := by rw [h0]; split <;> omega
      unfold f_mayStand_170 at hf
      obtain ⟨v1, e1, hf⟩ := m_bndE hf
      have q1 : v1.toInt = t1.toInt + t0.toInt := ti_add e1 rfl rfl (by omega) (by omega)
      obtain ⟨-, hf⟩ := m_chkE hf
      obtain ⟨v2, e2, hf⟩ := m_bndE hf
      have q2 := mR_at e2 (by omega) (by omega)
      rw [hm, q1, h1, h0] at q2
      obtain ⟨v3, e3, hf⟩ := m_bndE hf
      have q3 : v3.toInt = 4 + v4.toInt := ti_add e3 (show (4 : Int32).toInt = 4 from rfl) rfl (by omega) (by omega)
      rcases m_ifE hf with ⟨c1, hf⟩ | ⟨c1, hf⟩
      · replace c1 := ti_eqP (a := v2) (b := v3) c1 rfl rfl
        exact yes hle hx (fun _ => ⟨hk, by omega⟩) hf
      · replace c1 := ti_eqN (a := v2) (b := v3) c1 rfl rfl
        exact no hle (fun g => by have := (g.2 hrb2).2; omega) hf
    unfold f_mayStand_102s at hf
    rcases m_ifE hf with ⟨c1, hf⟩ | ⟨c1, hf⟩
    · skip
      replace c1 := ti_leP (a := (4 : Int32)) (b := x2) c1 (show (4 : Int32).toInt = 4 from rfl) rfl
      rcases m_ifE hf with ⟨c2, hf⟩ | ⟨c2, hf⟩
      · skip
        replace c2 := ti_ltP (a := (I 27)) (b := (0 : Int32)) c2 rfl (show (0 : Int32).toInt = 0 from rfl)
        unfold f_mayStand_202 at hf
        obtain ⟨-, hf⟩ := m_chkE hf
        cases hf
        try dsimp only
        have al := all (by omega)
        exact ⟨h1, fun g => ⟨(al.1 g).1, (al.1 g).2, Or.inl (by omega)⟩, fun g => al.2 ⟨g.1, g.2.1⟩⟩
      · skip
        replace c2 := ti_ltN (a := (I 27)) (b := (0 : Int32)) c2 rfl (show (0 : Int32).toInt = 0 from rfl)
        rcases m_ifE hf with ⟨c3, hf⟩ | ⟨c3, hf⟩
        · skip
          replace c3 := ti_eqP (a := x1) (b := (0 : Int32)) c3 rfl (show (0 : Int32).toInt = 0 from rfl)
          unfold f_mayStand_202 at hf
          obtain ⟨-, hf⟩ := m_chkE hf
          cases hf
          try dsimp only
          have al := all (by omega)
          exact ⟨h1, fun g => by omega, fun g => by have := al.2 ⟨g.1, g.2.1⟩; omega⟩
        · skip
          replace c3 := ti_eqN (a := x1) (b := (0 : Int32)) c3 rfl (show (0 : Int32).toInt = 0 from rfl)
          rcases m_ifE hf with ⟨c4, hf⟩ | ⟨c4, hf⟩
          · skip
            replace c4 := ti_eqP (a := (I 25)) (b := (0 : Int32)) c4 rfl (show (0 : Int32).toInt = 0 from rfl)
            obtain ⟨g1, g2⟩ := ms_218 (t0 := 8) h (by omega) (by omega) hf
            obtain ⟨a, c⟩ := (all (by omega)).1 (by omega)
            exact ⟨g1, fun g => ⟨a, c, g2.1 g⟩, fun g => g2.2 g.2.2⟩
          · skip
            replace c4 := ti_eqN (a := (I 25)) (b := (0 : Int32)) c4 rfl (show (0 : Int32).toInt = 0 from rfl)
            obtain ⟨g1, g2⟩ := ms_218 (t0 := -8) h (by omega) (by omega) hf
            obtain ⟨a, c⟩ := (all (by omega)).1 (by omega)
            exact ⟨g1, fun g => ⟨a, c, g2.1 g⟩, fun g => g2.2 g.2.2⟩
    · skip
      replace c1 := ti_leN (a := (4 : Int32)) (b := x2) c1 (show (4 : Int32).toInt = 4 from rfl) rfl
      obtain ⟨v1, e_v1, hf⟩ := m_bndE hf
      have t_v1 : v1.toInt = x2.toInt / 2 := ti_div e_v1 rfl (show (2 : Int32).toInt = 2 from rfl) (by omega) (by decide)
      obtain ⟨v2, e_v2, hf⟩ := m_bndE hf
      have t_v2 : v2.toInt = 56 * v1.toInt := ti_mul e_v2 (show (56 : Int32).toInt = 56 from rfl) rfl (by omega) (by omega)
      obtain ⟨v3, e_v3, hf⟩ := m_bndE hf
      have t_v3 : v3.toInt = x2.toInt / 2 := ti_div e_v3 rfl (show (2 : Int32).toInt = 2 from rfl) (by omega) (by decide)
      obtain ⟨v4, e_v4, hf⟩ := m_bndE hf
      have t_v4 : v4.toInt = 8 * v3.toInt := ti_mul e_v4 (show (8 : Int32).toInt = 8 from rfl) rfl (by omega) (by omega)
      rcases m_ifE hf with ⟨c5, hf⟩ | ⟨c5, hf⟩
      · skip
        replace c5 := ti_eqP (a := x1) (b := (0 : Int32)) c5 rfl (show (0 : Int32).toInt = 0 from rfl)
        exact no (by omega) (fun g => by have := g.1; omega) hf
      · skip
        replace c5 := ti_eqN (a := x1) (b := (0 : Int32)) c5 rfl (show (0 : Int32).toInt = 0 from rfl)
        obtain ⟨v5, e_v5, hf⟩ := m_bndE hf
        obtain ⟨v6, e_v6, hf⟩ := m_bndE hf
        have q6 := sh_rb e_v5 e_v6 (by omega) (by omega)
        rw [h26] at q6
        rcases m_ifE hf with ⟨c6, hf⟩ | ⟨c6, hf⟩
        · skip
          replace c6 := ti_eqP (a := v6) (b := (0 : Int32)) c6 rfl (show (0 : Int32).toInt = 0 from rfl)
          exact yes (by omega) (by omega) (fun g => by have := q6.2 g; omega) hf
        · skip
          replace c6 := ti_eqN (a := v6) (b := (0 : Int32)) c6 rfl (show (0 : Int32).toInt = 0 from rfl)
          obtain ⟨v7, e_v7, hf⟩ := m_bndE hf
          have t_v7 : v7.toInt = v2.toInt + 4 := ti_add e_v7 rfl (show (4 : Int32).toInt = 4 from rfl) (by omega) (by omega)
          obtain ⟨-, hf⟩ := m_chkE hf
          obtain ⟨v8, e_v8, hf⟩ := m_bndE hf
          have q8 := mR_at e_v8 (by omega) (by omega)
          rw [hm, show v7.toInt = 4 + 56 * (x2.toInt / 2) by omega] at q8
          have y6 : rb rt x2.toInt := by
            have hx9 := h1
            apply q6.1
            have b6 : v6.toInt = 0 ∨ v6.toInt = 1 := sh_01 e_v5 e_v6 (by omega) (by omega)
            omega
          obtain ⟨v9, e_v9, hf⟩ := m_bndE hf
          have t_v9 : v9.toInt = 6 + v4.toInt := ti_add e_v9 (show (6 : Int32).toInt = 6 from rfl) rfl (by omega) (by omega)
          rcases m_ifE hf with ⟨c7, hf⟩ | ⟨c7, hf⟩
          · skip
            replace c7 := ti_eqP (a := v8) (b := v9) c7 rfl rfl
            obtain ⟨v10, e_v10, hf⟩ := m_bndE hf
            have t_v10 : v10.toInt = x2.toInt % 2 := ti_rem e_v10 rfl (show (2 : Int32).toInt = 2 from rfl) (by omega) (by decide)
            rcases m_ifE hf with ⟨c8, hf⟩ | ⟨c8, hf⟩
            · skip
              replace c8 := ti_eqP (a := v10) (b := (0 : Int32)) c8 rfl (show (0 : Int32).toInt = 0 from rfl)
              exact rook v4 7 v2 (by omega) (by omega) y6 (by omega) (by rw [if_pos (by omega)]; rfl) (by omega) (by omega) hf
            · skip
              replace c8 := ti_eqN (a := v10) (b := (0 : Int32)) c8 rfl (show (0 : Int32).toInt = 0 from rfl)
              exact rook v4 0 v2 (by omega) (by omega) y6 (by omega) (by rw [if_neg (by omega)]; rfl) (by omega) (by omega) hf
          · skip
            replace c7 := ti_eqN (a := v8) (b := v9) c7 rfl rfl
            exact no (by omega) (fun g => by have := (g.2 y6).1; omega) hf
theorem ms_26 {k : Int} (h : RPo I A m sd rt ps) (hk : KU m (1 - sd) k) : ∀ (N : Nat) (x1 x2 : Int32), (0 ≤ x2.toInt ∧ x2.toInt ≤ 8) → (x1.toInt = 0 ∨ x1.toInt = 1) → (x1.toInt = 1 ↔ ∀ f, 0 ≤ f → f < x2.toInt → m f % 8 ≠ 1 ∧ m (56 + f) % 8 ≠ 1) → f_mayStand_26 N x1 x2 I A = some o → (o.1.toInt = 0 ∨ o.1.toInt = 1) ∧ (o.1.toInt = 1 ↔ (NPw m ∧ ¬ attd m k sd) ∧ RTo m rt ∧ SPs m sd ps) := by
  obtain ⟨hI, hA, hm, hM, h25, hs, h26, hrb, h27, hpb⟩ := id h
  have z0 : (0 : Int32).toInt = 0 := rfl
  intro N
  induction N with
  | zero => intro x1 x2 _ _ _ hf; cases hf
  | succ N ih =>
    intro x1 x2 h2 h1 hg hf
    have hf : f_mayStand_26s (f_mayStand_26 N) x1 x2 I A = some o := hf
    have go : ∀ t0 : Int32, x2.toInt ≤ 7 → (t0.toInt = 0 ∨ t0.toInt = 1) → (t0.toInt = 1 ↔ x1.toInt = 1 ∧ m x2.toInt % 8 ≠ 1 ∧ m (56 + x2.toInt) % 8 ≠ 1) → f_mayStand_70 (f_mayStand_26 N) x2 t0 I A = some o → (o.1.toInt = 0 ∨ o.1.toInt = 1) ∧ (o.1.toInt = 1 ↔ (NPw m ∧ ¬ attd m k sd) ∧ RTo m rt ∧ SPs m sd ps) := by
      intro t0 hle ht htg hf
      unfold f_mayStand_70 at hf
      obtain ⟨v1, e1, hf⟩ := m_bndE hf
      have t1 : v1.toInt = x2.toInt + 1 := ti_add e1 rfl (show (1 : Int32).toInt = 1 from rfl) (by omega) (by omega)
      refine ih t0 v1 (by omega) ht ?_ hf
      rw [htg, hg]
      constructor
      · rintro ⟨a, c⟩ i i0 i1
        by_cases e : i = x2.toInt
        · rw [e]; exact c
        · exact a i i0 (by omega)
      · intro a
        exact ⟨fun i i0 i1 => a i i0 (by omega), a x2.toInt h2.1 (by omega)⟩
    have no : x2.toInt ≤ 7 → ¬ (x1.toInt = 1 ∧ m x2.toInt % 8 ≠ 1 ∧ m (56 + x2.toInt) % 8 ≠ 1) → f_mayStand_69 (f_mayStand_26 N) x2 I A = some o → (o.1.toInt = 0 ∨ o.1.toInt = 1) ∧ (o.1.toInt = 1 ↔ (NPw m ∧ ¬ attd m k sd) ∧ RTo m rt ∧ SPs m sd ps) := fun hle a hf => go 0 hle (Or.inl rfl) ⟨fun g => absurd g (by decide), fun g => absurd g a⟩ hf
    have np : 8 ≤ x2.toInt → (x1.toInt = 1 ↔ NPw m) := fun h8 => by
      rw [hg]
      constructor
      · intro g s s0 s1 s2
        refine ⟨?_, ?_⟩
        · by_cases c : 8 ≤ s
          · exact c
          · exact absurd s2 (g s s0 (by omega)).1
        · by_cases c : s < 56
          · exact c
          · have := (g (s - 56) (by omega) (by omega)).2
            rw [show 56 + (s - 56) = s by omega] at this
            exact absurd s2 this
      · intro g f f0 f1
        refine ⟨fun e => ?_, fun e => ?_⟩
        · have := (g f f0 (by omega) e).1; omega
        · have := (g (56 + f) (by omega) (by omega) e).2; omega
    have fin : ∀ t0 : Int32, (t0.toInt = 0 ∨ t0.toInt = 1) → (t0.toInt = 1 ↔ NPw m ∧ ¬ attd m k sd) → f_mayStand_99 t0 I A = some o → (o.1.toInt = 0 ∨ o.1.toInt = 1) ∧ (o.1.toInt = 1 ↔ (NPw m ∧ ¬ attd m k sd) ∧ RTo m rt ∧ SPs m sd ps) := fun t0 ht htg hf => ms_102 h mFuel t0 0 (by decide) ht (by
      rw [htg]
      exact ⟨fun g => ⟨g, fun i i0 i1 => by omega⟩, fun g => g.1⟩) hf
    unfold f_mayStand_26s at hf
    rcases m_ifE hf with ⟨c1, hf⟩ | ⟨c1, hf⟩
    · skip
      replace c1 := ti_leP (a := (8 : Int32)) (b := x2) c1 (show (8 : Int32).toInt = 8 from rfl) rfl
      rcases m_ifE hf with ⟨c2, hf⟩ | ⟨c2, hf⟩
      · skip
        replace c2 := ti_eqP (a := x1) (b := (0 : Int32)) c2 rfl (show (0 : Int32).toInt = 0 from rfl)
        have e := np (by omega)
        exact fin 0 (Or.inl rfl) ⟨fun g => absurd g (by decide), fun g => by have := e.2 g.1; omega⟩ hf
      · skip
        replace c2 := ti_eqN (a := x1) (b := (0 : Int32)) c2 rfl (show (0 : Int32).toInt = 0 from rfl)
        obtain ⟨v1, e_v1, hf⟩ := m_bndE hf
        have t_v1 : v1.toInt = 1 - (I 25).toInt := ti_sub e_v1 (show (1 : Int32).toInt = 1 from rfl) rfl (by omega) (by omega)
        obtain ⟨r2, h_r2, hf⟩ := m_clR hf (fun _ h => rro_isInCheck h)
        obtain ⟨-, b2, q2⟩ := ok_of (x_isInCheck (k := k) (x1 := v1) hI hA (by omega) (by rw [hm, show v1.toInt = 1 - sd by omega]; exact hk) (by rw [hm]; exact hM)) h_r2
        dsimp only at b2 q2
        rw [hm, show 1 - v1.toInt = sd by omega] at q2
        have e := np (by omega)
        rcases m_ifE hf with ⟨c3, hf⟩ | ⟨c3, hf⟩
        · skip
          replace c3 := ti_eqP (a := r2) (b := (0 : Int32)) c3 rfl (show (0 : Int32).toInt = 0 from rfl)
          exact fin 1 (Or.inr rfl) ⟨fun _ => ⟨e.1 (by omega), fun g => by have := q2.2 g; omega⟩, fun _ => rfl⟩ hf
        · skip
          replace c3 := ti_eqN (a := r2) (b := (0 : Int32)) c3 rfl (show (0 : Int32).toInt = 0 from rfl)
          exact fin 0 (Or.inl rfl) ⟨fun g => absurd g (by decide), fun g => absurd (q2.1 (by omega)) g.2⟩ hf
    · skip
      replace c1 := ti_leN (a := (8 : Int32)) (b := x2) c1 (show (8 : Int32).toInt = 8 from rfl) rfl
      rcases m_ifE hf with ⟨c4, hf⟩ | ⟨c4, hf⟩
      · skip
        replace c4 := ti_eqP (a := x1) (b := (0 : Int32)) c4 rfl (show (0 : Int32).toInt = 0 from rfl)
        exact no (by omega) (fun g => by have := g.1; omega) hf
      · skip
        replace c4 := ti_eqN (a := x1) (b := (0 : Int32)) c4 rfl (show (0 : Int32).toInt = 0 from rfl)
        obtain ⟨-, hf⟩ := m_chkE hf
        obtain ⟨v3, e_v3, hf⟩ := m_bndE hf
        have q3 := mR_at e_v3 (by omega) (by omega)
        rw [hm] at q3
        have M3 := hM x2.toInt
        obtain ⟨r4, h_r4, hf⟩ := m_clR hf (fun _ h => rro_kind h)
        have p_r4 := pc_kind h_r4
        dsimp only at p_r4
        have q4 := p_r4 hI hA (by omega)
        rcases m_ifE hf with ⟨c5, hf⟩ | ⟨c5, hf⟩
        · skip
          replace c5 := ti_eqP (a := r4) (b := (1 : Int32)) c5 rfl (show (1 : Int32).toInt = 1 from rfl)
          exact no (by omega) (fun g => by have := g.2.1; omega) hf
        · skip
          replace c5 := ti_eqN (a := r4) (b := (1 : Int32)) c5 rfl (show (1 : Int32).toInt = 1 from rfl)
          obtain ⟨v5, e_v5, hf⟩ := m_bndE hf
          have t_v5 : v5.toInt = 56 + x2.toInt := ti_add e_v5 (show (56 : Int32).toInt = 56 from rfl) rfl (by omega) (by omega)
          obtain ⟨-, hf⟩ := m_chkE hf
          obtain ⟨v6, e_v6, hf⟩ := m_bndE hf
          have q6 := mR_at e_v6 (by omega) (by omega)
          rw [hm, t_v5] at q6
          have M6 := hM (56 + x2.toInt)
          obtain ⟨r7, h_r7, hf⟩ := m_clR hf (fun _ h => rro_kind h)
          have p_r7 := pc_kind h_r7
          dsimp only at p_r7
          have q7 := p_r7 hI hA (by omega)
          rcases m_ifE hf with ⟨c6, hf⟩ | ⟨c6, hf⟩
          · skip
            replace c6 := ti_eqP (a := r7) (b := (1 : Int32)) c6 rfl (show (1 : Int32).toInt = 1 from rfl)
            exact no (by omega) (fun g => by have := g.2.2; omega) hf
          · skip
            replace c6 := ti_eqN (a := r7) (b := (1 : Int32)) c6 rfl (show (1 : Int32).toInt = 1 from rfl)
            exact go 1 (by omega) (Or.inr rfl) ⟨fun _ => ⟨by omega, by omega, by omega⟩, fun _ => rfl⟩ hf
theorem cof_4 {x1 : Int32} (hm : mR A = m) : ∀ (N : Nat) (x2 x3 : Int32), (0 ≤ x3.toInt ∧ x3.toInt ≤ 64) → x2.toInt = ((cnt (fun s => m (s : Int) = x1.toInt) x3.toInt.toNat : Nat) : Int) → f_countOf_4 N x1 x2 x3 I A = some o → o.1.toInt = ((cnt (fun s => m (s : Int) = x1.toInt) 64 : Nat) : Int) := by
  intro N
  induction N with
  | zero => intro x2 x3 _ _ hf; cases hf
  | succ N ih =>
    intro x2 x3 h3 h2 hf
    have hf : f_countOf_4s (f_countOf_4 N) x1 x2 x3 I A = some o := hf
    have cl : cnt (fun s => m (s : Int) = x1.toInt) x3.toInt.toNat ≤ x3.toInt.toNat := cnt_le
    have en : ((x3.toInt.toNat : Nat) : Int) = x3.toInt := Int.toNat_of_nonneg h3.1
    have go : ∀ t0 : Int32, x3.toInt < 64 → t0.toInt = ((cnt (fun s => m (s : Int) = x1.toInt) (x3.toInt.toNat + 1) : Nat) : Int) → f_countOf_27 (f_countOf_4 N) x1 x3 t0 I A = some o → o.1.toInt = ((cnt (fun s => m (s : Int) = x1.toInt) 64 : Nat) : Int) := by
      intro t0 hlt ht hf
      unfold f_countOf_27 at hf
      obtain ⟨v1, e1, hf⟩ := m_bndE hf
      have t1 : v1.toInt = x3.toInt + 1 := ti_add e1 rfl (show (1 : Int32).toInt = 1 from rfl) (by omega) (by omega)
      refine ih t0 v1 (by omega) ?_ hf
      rw [show v1.toInt.toNat = x3.toInt.toNat + 1 by omega]
      exact ht
    unfold f_countOf_4s at hf
    rcases m_ifE hf with ⟨c1, hf⟩ | ⟨c1, hf⟩
    · skip
      replace c1 := ti_leP (a := (64 : Int32)) (b := x3) c1 (show (64 : Int32).toInt = 64 from rfl) rfl
      cases hf
      try dsimp only
      rw [h2, show x3.toInt.toNat = 64 by omega]
    · skip
      replace c1 := ti_leN (a := (64 : Int32)) (b := x3) c1 (show (64 : Int32).toInt = 64 from rfl) rfl
      obtain ⟨-, hf⟩ := m_chkE hf
      obtain ⟨v1, e_v1, hf⟩ := m_bndE hf
      have q1 := mR_at e_v1 (by omega) (by omega)
      rw [hm] at q1
      rcases m_ifE hf with ⟨c2, hf⟩ | ⟨c2, hf⟩
      · skip
        replace c2 := ti_eqP (a := v1) (b := x1) c2 rfl rfl
        obtain ⟨v2, e_v2, hf⟩ := m_bndE hf
        have t_v2 : v2.toInt = x2.toInt + 1 := ti_add e_v2 rfl (show (1 : Int32).toInt = 1 from rfl) (by omega) (by omega)
        refine go v2 (by omega) ?_ hf
        rw [cnt_y (show m ((x3.toInt.toNat : Nat) : Int) = x1.toInt by rw [en]; omega)]
        omega
      · skip
        replace c2 := ti_eqN (a := v1) (b := x1) c2 rfl rfl
        refine go x2 (by omega) ?_ hf
        rw [cnt_n (show ¬ (m ((x3.toInt.toNat : Nat) : Int) = x1.toInt) by rw [en]; omega)]
        exact h2
theorem v_countOf {x1 : Int32} (hm : mR A = m) (hf : f_countOf x1 I A = some o) : o.1.toInt = ((cnt (fun s => m (s : Int) = x1.toInt) 64 : Nat) : Int) := cof_4 hm mFuel 0 0 (by decide) (by rw [show (0 : Int32).toInt.toNat = 0 from rfl]; rfl) hf
theorem v_mayStand (h : RPo I A m sd rt ps) (hf : f_mayStand I A = some o) : (o.1.toInt = 0 ∨ o.1.toInt = 1) ∧ (o.1.toInt = 1 ↔ SNDp m sd rt ps) := by
  have hf : f_mayStand_0 I A = some o := hf
  have hm := h.2.2.1
  have hs := h.2.2.2.2.2.1
  have z1 : (1 : Int32).toInt = 1 := rfl
  have z6 : (6 : Int32).toInt = 6 + 8 * 0 := rfl
  have z14 : (14 : Int32).toInt = 6 + 8 * 1 := rfl
  unfold f_mayStand_0 at hf
  obtain ⟨r1, h_r1, hf⟩ := m_clR hf (fun _ h => rro_countOf h)
  have q1 := v_countOf hm h_r1
  dsimp only at q1
  rw [z6] at q1
  rcases m_ifE hf with ⟨c1, hf⟩ | ⟨c1, hf⟩
  · skip
    replace c1 := ti_eqP (a := r1) (b := (1 : Int32)) c1 rfl (show (1 : Int32).toInt = 1 from rfl)
    obtain ⟨r2, h_r2, hf⟩ := m_clR hf (fun _ h => rro_countOf h)
    have q2 := v_countOf hm h_r2
    dsimp only at q2
    rw [z14] at q2
    rcases m_ifE hf with ⟨c2, hf⟩ | ⟨c2, hf⟩
    · skip
      replace c2 := ti_eqP (a := r2) (b := (1 : Int32)) c2 rfl (show (1 : Int32).toInt = 1 from rfl)
      obtain ⟨kw, gw⟩ := cnt_ku (m := m) (w := 0) (by omega)
      obtain ⟨kb, gb⟩ := cnt_ku (m := m) (w := 1) (by omega)
      obtain ⟨k, gk⟩ : ∃ k, KU m (1 - sd) k := by
        rcases hs with e | e <;> subst e
        · exact ⟨kb, gb⟩
        · exact ⟨kw, gw⟩
      obtain ⟨g1, g2⟩ := ms_26 h gk mFuel 1 0 (by decide) (Or.inr rfl) ⟨fun _ f f0 f1 => by have z0 : (0 : Int32).toInt = 0 := rfl; omega, fun _ => rfl⟩ hf
      refine ⟨g1, ?_⟩
      rw [g2]
      constructor
      · rintro ⟨⟨a, c⟩, d, e⟩
        refine ⟨a, ⟨kw, gw⟩, ⟨kb, gb⟩, fun q hq => ?_, d, e⟩
        have e9 := gk.2.2.2 q hq.1 hq.2.1 hq.2.2.1
        rw [e9]; exact c
      · rintro ⟨a, -, -, c, d, e⟩
        exact ⟨⟨a, c k gk⟩, d, e⟩
    · skip
      replace c2 := ti_eqN (a := r2) (b := (1 : Int32)) c2 rfl (show (1 : Int32).toInt = 1 from rfl)
      unfold f_mayStand_20 at hf
      obtain ⟨-, hf⟩ := m_chkE hf
      cases hf
      try dsimp only
      refine ⟨Or.inl rfl, fun g => absurd g (by decide), fun g => ?_⟩
      obtain ⟨-, -, ⟨k, g⟩, -⟩ := g
      have := ku_cnt g
      omega
  · skip
    replace c1 := ti_eqN (a := r1) (b := (1 : Int32)) c1 rfl (show (1 : Int32).toInt = 1 from rfl)
    unfold f_mayStand_20 at hf
    obtain ⟨-, hf⟩ := m_chkE hf
    cases hf
    try dsimp only
    refine ⟨Or.inl rfl, fun g => absurd g (by decide), fun g => ?_⟩
    obtain ⟨-, ⟨k, g⟩, -⟩ := g
    have := ku_cnt g
    omega
end MST
end
section
section RPO
variable {I : Nat → Int32} {A : Nat → Nat → Int32} {b n p : Int} {V m : Int → Int} {o : Int32 × MS} {sd rt ps : Int}
/-- what the reference holds of a position that it has read -/
noncomputable def RES (o : Int32 × MS) (m : Int → Int) (sd rt ps nb : Int) : Prop := mR o.2.2 = m ∧ (o.2.1 25).toInt = sd ∧ (o.2.1 26).toInt = rt ∧ (o.2.1 27).toInt = ps ∧ (o.2.1 29).toInt = nb
theorem rp_237 (hf : f_readPosition_237 I A = some o) : o.1.toInt = 0 := by
  unfold f_readPosition_237 at hf
  unfold f_readPosition_238 at hf
  rcases m_ifE hf with ⟨c, hf⟩ | ⟨c, hf⟩
  · unfold f_readPosition_252 at hf
    obtain ⟨I1, -, hf⟩ := m_bndE hf
    rcases m_ifE hf with ⟨c2, hf⟩ | ⟨c2, hf⟩
    · unfold f_readPosition_288 f_readPosition_289 at hf
      obtain ⟨-, hf⟩ := m_chkE hf
      cases hf
      rfl
    · exact absurd rfl c2
  · exact absurd rfl c
theorem rp_195 (hf : f_readPosition_195 I A = some o) : o.1.toInt = 0 := by
  unfold f_readPosition_195 at hf
  unfold f_readPosition_196 at hf
  rcases m_ifE hf with ⟨c, hf⟩ | ⟨c, hf⟩
  · unfold f_readPosition_210 at hf
    obtain ⟨I1, -, hf⟩ := m_bndE hf
    rcases m_ifE hf with ⟨c2, hf⟩ | ⟨c2, hf⟩
    · exact rp_237 hf
    · exact absurd rfl c2
  · exact absurd rfl c
theorem rp_0f (hf : f_readPosition_135 0 I A = some o) : o.1.toInt = 0 := by
  unfold f_readPosition_135 at hf
  obtain ⟨v1, -, hf⟩ := m_bndE hf
  obtain ⟨I2, -, hf⟩ := m_bndE hf
  rcases m_ifE hf with ⟨c2, hf⟩ | ⟨c2, hf⟩
  · exact rp_195 hf
  · exact absurd rfl c2
theorem rp_252n {t0 : Int32} (ht : t0.toInt ≤ 0) (hf : f_readPosition_252 1 t0 I A = some o) : o.1.toInt = 0 := by
  unfold f_readPosition_252 at hf
  obtain ⟨I1, e1, hf⟩ := m_bndE hf
  rcases m_ifE hf with ⟨c2, hf⟩ | ⟨c2, hf⟩
  · exact absurd c2 (by decide)
  · rcases m_ifE hf with ⟨c3, hf⟩ | ⟨c3, hf⟩
    · unfold f_readPosition_288 f_readPosition_289 at hf
      obtain ⟨-, hf⟩ := m_chkE hf
      cases hf
      rfl
    · rw [e1, upd_self] at c3
      replace c3 := ti_leN (a := t0) (b := (0 : Int32)) c3 rfl rfl
      have z0 : (0 : Int32).toInt = 0 := rfl
      omega
/-- a position's first four parts are read -/
noncomputable def RP4 (I : Nat → Int32) (sd rt ps : Int) : Prop := (I 25).toInt = sd ∧ (sd = 0 ∨ sd = 1) ∧ (I 26).toInt = rt ∧ (0 ≤ rt ∧ rt ≤ 15) ∧ (I 27).toInt = ps ∧ (-1 ≤ ps ∧ ps ≤ 63)
theorem rp_252 {t0 : Int32} (hJ : VJ I A b n V p m) (h4 : RP4 I sd rt ps) (htb : -1 ≤ t0.toInt ∧ t0.toInt ≤ 999) (hf : f_readPosition_252 1 t0 I A = some o) : (o.1.toInt = 1 ∧ (0 < t0.toInt ∧ p = n ∧ SNDp m sd rt ps) ∧ RES o m sd rt ps t0.toInt) ∨ (o.1.toInt = 0 ∧ ¬ (0 < t0.toInt ∧ p = n ∧ SNDp m sd rt ps)) := by
  have z0 : (0 : Int32).toInt = 0 := rfl
  have no : ∀ I1, ¬ (0 < t0.toInt ∧ p = n ∧ SNDp m sd rt ps) → f_readPosition_288 I1 A = some o → (o.1.toInt = 1 ∧ (0 < t0.toInt ∧ p = n ∧ SNDp m sd rt ps) ∧ RES o m sd rt ps t0.toInt) ∨ (o.1.toInt = 0 ∧ ¬ (0 < t0.toInt ∧ p = n ∧ SNDp m sd rt ps)) := fun I1 hn hf => by
    unfold f_readPosition_288 f_readPosition_289 at hf
    obtain ⟨-, hf⟩ := m_chkE hf
    cases hf
    exact Or.inr ⟨rfl, hn⟩
  obtain ⟨h25, hs, h26, hr, h27, hp⟩ := h4
  unfold f_readPosition_252 at hf
  obtain ⟨I1, e1, hf⟩ := m_bndE hf
  have J1 : VJ I1 A b n V p m := vj_w hJ e1 (show (-1 : Int) ≤ _ by omega) (show _ ≤ (2000 : Int) by omega) (by decide) (by decide)
  have h29 : I1 29 = t0 := by rw [e1, upd_self]
  have f25 : I1 25 = I 25 := by rw [e1, upd_ne (by decide)]
  have f26 : I1 26 = I 26 := by rw [e1, upd_ne (by decide)]
  have f27 : I1 27 = I 27 := by rw [e1, upd_ne (by decide)]
  have h38 := J1.2.2.2.1
  have h39 := J1.2.2.2.2.1
  rcases m_ifE hf with ⟨c2, hf⟩ | ⟨c2, hf⟩
  · exact absurd c2 (by decide)
  · rcases m_ifE hf with ⟨c3, hf⟩ | ⟨c3, hf⟩
    · rw [h29] at c3
      replace c3 := ti_leP (a := t0) (b := (0 : Int32)) c3 rfl rfl
      exact no I1 (fun g => by have := g.1; omega) hf
    · rw [h29] at c3
      replace c3 := ti_leN (a := t0) (b := (0 : Int32)) c3 rfl rfl
      rcases m_ifE hf with ⟨c4, hf⟩ | ⟨c4, hf⟩
      · replace c4 := ti_eqP (a := I1 38) (b := I1 39) c4 rfl rfl
        obtain ⟨r2, h_r2, hf⟩ := m_clR hf (fun _ h => rro_mayStand h)
        obtain ⟨g1, g2⟩ := v_mayStand (m := m) (sd := sd) (rt := rt) (ps := ps) ⟨J1.1, J1.2.1, J1.2.2.2.2.2.2.2.2.1, J1.2.2.2.2.2.2.2.2.2, by rw [f25]; exact h25, hs, by rw [f26]; exact h26, hr, by rw [f27]; exact h27, hp⟩ h_r2
        dsimp only at g1 g2
        rcases m_ifE hf with ⟨c5, hf⟩ | ⟨c5, hf⟩
        · replace c5 := ti_eqP (a := r2) (b := (0 : Int32)) c5 rfl rfl
          exact no I1 (fun g => by have := g2.2 g.2.2; omega) hf
        · replace c5 := ti_eqN (a := r2) (b := (0 : Int32)) c5 rfl rfl
          unfold f_readPosition_289 at hf
          obtain ⟨-, hf⟩ := m_chkE hf
          cases hf
          refine Or.inl ⟨rfl, ⟨by omega, by omega, g2.1 (by omega)⟩, J1.2.2.2.2.2.2.2.2.1, ?_, ?_, ?_, ?_⟩
          · show (I1 25).toInt = sd; rw [f25]; exact h25
          · show (I1 26).toInt = rt; rw [f26]; exact h26
          · show (I1 27).toInt = ps; rw [f27]; exact h27
          · show (I1 29).toInt = t0.toInt; rw [h29]
      · replace c4 := ti_eqN (a := I1 38) (b := I1 39) c4 rfl rfl
        exact no I1 (fun g => by have := g.2.1; omega) hf
theorem num_b : -1 ≤ numC V p ∧ numC V p ≤ 999 := by
  unfold numC
  split
  · decide
  · have b3 := nd3_b (V := V) (p := p)
    have g := val3_b (V := V) (p := p) (k := nd3 V p) b3 (fun j j0 j1 => by
      unfold nd3 at j1
      by_cases a : 48 ≤ V p ∧ V p ≤ 57
      · rw [if_pos a] at j1
        by_cases e0 : j = 0
        · rw [e0, Int.add_zero]; exact a
        · by_cases c : 48 ≤ V (p + 1) ∧ V (p + 1) ≤ 57
          · rw [if_pos c] at j1
            by_cases e1 : j = 1
            · rw [e1]; exact c
            · by_cases d : 48 ≤ V (p + 2) ∧ V (p + 2) ≤ 57
              · rw [if_pos d] at j1
                have e2 : j = 2 := by omega
                rw [e2]; exact d
              · rw [if_neg d] at j1; omega
          · rw [if_neg c] at j1; omega
      · rw [if_neg a] at j1; omega)
    omega
theorem rp_238 (hJ : VJ I A b n V p m) (hp : p ≤ 900) (h4 : RP4 I sd rt ps) (hf : f_readPosition_238 1 I A = some o) : (o.1.toInt = 1 ∧ (0 < numC V p ∧ p + nd3 V p = n ∧ SNDp m sd rt ps) ∧ RES o m sd rt ps (numC V p)) ∨ (o.1.toInt = 0 ∧ ¬ (0 < numC V p ∧ p + nd3 V p = n ∧ SNDp m sd rt ps)) := by
  unfold f_readPosition_238 at hf
  rcases m_ifE hf with ⟨c, hf⟩ | ⟨c, hf⟩
  · exact absurd c (by decide)
  · obtain ⟨⟨r1, I1, A1⟩, h_r1, hf⟩ := m_clE hf
    dsimp only at hf
    have F := (fw_readNumber h_r1).1
    dsimp only at F
    have nb := num_b (V := V) (p := p)
    rcases v_number hp hJ h_r1 with ⟨a1, a2, a3, a4⟩ | ⟨-, a2, a3⟩
    · dsimp only at a4
      refine Or.inr ⟨rp_252n (by omega) hf, fun g => ?_⟩
      have e := hJ.2.2.2.2.2.2.1 (p + 3) (by have := hJ.2.2.2.2.2.1; omega)
      unfold vR at e
      rw [if_neg (by have := g.2.1; omega)] at e
      omega
    · dsimp only at a2 a3
      have g := rp_252 a3 (sd := sd) (rt := rt) (ps := ps) (by
        unfold RP4
        rw [F 25 (by decide), F 26 (by decide), F 27 (by decide)]
        exact h4) (by omega) hf
      rw [a2] at g
      exact g
theorem rp_196 (hJ : VJ I A b n V p m) (hp : p ≤ 800) (h4 : RP4 I sd rt ps) (hf : f_readPosition_196 1 I A = some o) : (o.1.toInt = 1 ∧ ∃ nb, FEN4 V n m sd rt ps nb p ∧ RES o m sd rt ps nb) ∨ (o.1.toInt = 0 ∧ ∀ nb, ¬ FEN4 V n m sd rt ps nb p) := by
  have z0 : (0 : Int32).toInt = 0 := rfl
  have z32 : (32 : Int32).toInt = 32 := rfl
  unfold f_readPosition_196 at hf
  rcases m_ifE hf with ⟨c, hf⟩ | ⟨c, hf⟩
  · exact absurd c (by decide)
  · obtain ⟨⟨r1, I1, A1⟩, h_r1, hf⟩ := m_clE hf
    dsimp only at hf
    have F := (fw_readNumber h_r1).1
    dsimp only at F
    have b3 := nd3_b (V := V) (p := p)
    unfold f_readPosition_210 at hf
    obtain ⟨I2, e2, hf⟩ := m_bndE hf
    have h28 : I2 28 = r1 := by rw [e2, upd_self]
    rw [h28] at hf
    rcases m_ifE hf with ⟨c1, hf⟩ | ⟨c1, hf⟩
    · exact absurd c1 (by decide)
    · rcases v_number (by omega) hJ h_r1 with ⟨a1, a2, a3, a4⟩ | ⟨-, a2, a3⟩
      · dsimp only at a4
        rcases m_ifE hf with ⟨c2, hf⟩ | ⟨c2, hf⟩
        · refine Or.inr ⟨rp_237 hf, fun nb g => ?_⟩
          have := g.2.1
          rw [a1] at this
          omega
        · replace c2 := ti_ltN (a := r1) (b := (0 : Int32)) c2 rfl rfl
          omega
      · dsimp only at a2 a3
        rcases m_ifE hf with ⟨c2, hf⟩ | ⟨c2, hf⟩
        · replace c2 := ti_ltP (a := r1) (b := (0 : Int32)) c2 rfl rfl
          exact Or.inr ⟨rp_237 hf, fun nb g => by have := g.1; omega⟩
        · replace c2 := ti_ltN (a := r1) (b := (0 : Int32)) c2 rfl rfl
          have J2 : VJ I2 A1 b n V (p + nd3 V p) m := vj_w a3 e2 (tf_b _).1 (tf_b _).2 (by decide) (by decide)
          obtain ⟨⟨r3, I3, A3⟩, h_r3, hf⟩ := m_clE hf
          dsimp only at hf
          have F3 := (fw_pass h_r3).1
          dsimp only at F3
          obtain ⟨J3, b3', g3⟩ := v_pass J2 (by omega) h_r3
          dsimp only at J3 b3' g3
          rw [z32] at g3
          rcases m_ifE hf with ⟨c3, hf⟩ | ⟨c3, hf⟩
          · replace c3 := ti_eqP (a := r3) (b := (0 : Int32)) c3 rfl rfl
            exact Or.inr ⟨rp_237 hf, fun nb g => by have := g3.2 g.2.1; omega⟩
          · replace c3 := ti_eqN (a := r3) (b := (0 : Int32)) c3 rfl rfl
            have g := rp_238 J3 (by omega) (sd := sd) (rt := rt) (ps := ps) (by
              unfold RP4
              rw [F3 25 (by decide), F3 26 (by decide), F3 27 (by decide), e2, upd_ne (by decide), upd_ne (by decide), upd_ne (by decide), F 25 (by decide), F 26 (by decide), F 27 (by decide)]
              exact h4) hf
            rcases g with ⟨d1, d2, d3⟩ | ⟨d1, d2⟩
            · exact Or.inl ⟨d1, _, ⟨by omega, g3.1 (by omega), d2.1, rfl, d2.2.1, d2.2.2⟩, d3⟩
            · exact Or.inr ⟨d1, fun nb g => d2 ⟨g.2.2.1, g.2.2.2.2.1, g.2.2.2.2.2⟩⟩
theorem rp_135 (hJ : VJ I A b n V p m) (hp : p ≤ 700) (h25 : (I 25).toInt = sd) (hs : sd = 0 ∨ sd = 1) (hf : f_readPosition_135 1 I A = some o) : (o.1.toInt = 1 ∧ ∃ rt ps nb, (V (p + 1) = 32 ∧ FEN2 V n m sd rt ps nb (p + 2)) ∧ RES o m sd rt ps nb) ∨ (o.1.toInt = 0 ∧ ∀ rt ps nb, ¬ (V (p + 1) = 32 ∧ FEN2 V n m sd rt ps nb (p + 2))) := by
  have z0 : (0 : Int32).toInt = 0 := rfl
  have z1 : (1 : Int32).toInt = 1 := rfl
  have z32 : (32 : Int32).toInt = 32 := rfl
  have h38 := hJ.2.2.2.1
  have hb := hJ.2.2.1
  have hp0 := hJ.2.2.2.2.2.1
  unfold f_readPosition_135 at hf
  obtain ⟨v1, e_v1, hf⟩ := m_bndE hf
  have t_v1 : v1.toInt = (I 38).toInt + 1 := ti_add e_v1 rfl (show (1 : Int32).toInt = 1 from rfl) (by omega) (by omega)
  obtain ⟨I2, e_I2, hf⟩ := m_bndE hf
  have J2 : VJ I2 A b n V (p + 1) m := vj_at hJ e_I2 (by omega) (by omega)
  have f2 : I2 25 = I 25 := by rw [e_I2, upd_ne (by decide)]
  rcases m_ifE hf with ⟨c1, hf⟩ | ⟨c1, hf⟩
  · skip
    replace c1 := ti_eqP (a := (1 : Int32)) (b := (0 : Int32)) c1 (show (1 : Int32).toInt = 1 from rfl) (show (0 : Int32).toInt = 0 from rfl)
    exact absurd c1 (by decide)
  · skip
    replace c1 := ti_eqN (a := (1 : Int32)) (b := (0 : Int32)) c1 (show (1 : Int32).toInt = 1 from rfl) (show (0 : Int32).toInt = 0 from rfl)
    obtain ⟨⟨r3, Ic3, Ac3⟩, h_r3, hf⟩ := m_clE hf
    dsimp only at hf
    obtain ⟨J3, b3, g3⟩ := v_pass J2 (by omega) h_r3
    dsimp only at J3 b3 g3
    rw [z32] at g3
    have F3 := (fw_pass h_r3).1
    dsimp only at F3
    rw [show p + 1 + 1 = p + 2 by omega] at J3
    rcases m_ifE hf with ⟨c2, hf⟩ | ⟨c2, hf⟩
    · skip
      replace c2 := ti_eqP (a := r3) (b := (0 : Int32)) c2 rfl (show (0 : Int32).toInt = 0 from rfl)
      exact Or.inr ⟨rp_195 hf, fun rt ps nb g => by have := g3.2 g.1; omega⟩
    · skip
      replace c2 := ti_eqN (a := r3) (b := (0 : Int32)) c2 rfl (show (0 : Int32).toInt = 0 from rfl)
      obtain ⟨rg1, rg2, rg3, rg4⟩ := rg_rng (V := V) (p := p + 2)
      obtain ⟨⟨r4, Ic4, Ac4⟩, h_r4, hf⟩ := m_clE hf
      dsimp only at hf
      obtain ⟨b4, g4, J4, h426⟩ := v_rights J3 (by omega) h_r4
      dsimp only at b4 g4 J4 h426
      have F4 := (fw_readRights h_r4).1
      dsimp only at F4
      rcases m_ifE hf with ⟨c3, hf⟩ | ⟨c3, hf⟩
      · skip
        replace c3 := ti_eqP (a := r4) (b := (0 : Int32)) c3 rfl (show (0 : Int32).toInt = 0 from rfl)
        exact Or.inr ⟨rp_195 hf, fun rt ps nb g => by have := g4.2 g.2.1; omega⟩
      · skip
        replace c3 := ti_eqN (a := r4) (b := (0 : Int32)) c3 rfl (show (0 : Int32).toInt = 0 from rfl)
        obtain ⟨⟨r5, Ic5, Ac5⟩, h_r5, hf⟩ := m_clE hf
        dsimp only at hf
        obtain ⟨J5, b5, g5⟩ := v_pass J4 (by omega) h_r5
        dsimp only at J5 b5 g5
        rw [z32] at g5
        have F5 := (fw_pass h_r5).1
        dsimp only at F5
        rcases m_ifE hf with ⟨c4, hf⟩ | ⟨c4, hf⟩
        · skip
          replace c4 := ti_eqP (a := r5) (b := (0 : Int32)) c4 rfl (show (0 : Int32).toInt = 0 from rfl)
          exact Or.inr ⟨rp_195 hf, fun rt ps nb g => by have := g5.2 g.2.2.2.1; omega⟩
        · skip
          replace c4 := ti_eqN (a := r5) (b := (0 : Int32)) c4 rfl (show (0 : Int32).toInt = 0 from rfl)
          obtain ⟨ps1, ps2, ps3, ps4⟩ := ps_rng (V := V) (p := (rgV V (p + 2)).1 + 1)
          obtain ⟨⟨r6, Ic6, Ac6⟩, h_r6, hf⟩ := m_clE hf
          dsimp only at hf
          obtain ⟨b6, g6, J6, h627⟩ := v_passed J5 (by omega) h_r6
          dsimp only at b6 g6 J6 h627
          have F6 := (fw_readPassed h_r6).1
          dsimp only at F6
          rcases m_ifE hf with ⟨c5, hf⟩ | ⟨c5, hf⟩
          · skip
            replace c5 := ti_eqP (a := r6) (b := (0 : Int32)) c5 rfl (show (0 : Int32).toInt = 0 from rfl)
            exact Or.inr ⟨rp_195 hf, fun rt ps nb g => by have := g6.2 g.2.2.2.2.1; omega⟩
          · skip
            replace c5 := ti_eqN (a := r6) (b := (0 : Int32)) c5 rfl (show (0 : Int32).toInt = 0 from rfl)
            obtain ⟨⟨r7, Ic7, Ac7⟩, h_r7, hf⟩ := m_clE hf
            dsimp only at hf
            obtain ⟨J7, b7, g7⟩ := v_pass J6 (by omega) h_r7
            dsimp only at J7 b7 g7
            rw [z32] at g7
            have F7 := (fw_pass h_r7).1
            dsimp only at F7
            rcases m_ifE hf with ⟨c6, hf⟩ | ⟨c6, hf⟩
            · skip
              replace c6 := ti_eqP (a := r7) (b := (0 : Int32)) c6 rfl (show (0 : Int32).toInt = 0 from rfl)
              exact Or.inr ⟨rp_195 hf, fun rt ps nb g => by have := g7.2 g.2.2.2.2.2.2.1; omega⟩
            · skip
              replace c6 := ti_eqN (a := r7) (b := (0 : Int32)) c6 rfl (show (0 : Int32).toInt = 0 from rfl)
              have g := rp_196 J7 (by omega) (sd := sd) (rt := (rgV V (p + 2)).2) (ps := (psV V ((rgV V (p + 2)).1 + 1)).2) ⟨by rw [F7 25 (by decide), F6 25 (by decide), F5 25 (by decide), F4 25 (by decide), F3 25 (by decide), f2]; exact h25, hs, by rw [F7 26 (by decide), F6 26 (by decide), F5 26 (by decide)]; exact h426, ⟨rg3, rg4⟩, by rw [F7 27 (by decide)]; exact h627, ⟨ps3, ps4⟩⟩ hf
              rcases g with ⟨d1, nb, d2, d3⟩ | ⟨d1, d2⟩
              · exact Or.inl ⟨d1, _, _, nb, ⟨g3.1 (by omega), g4.1 (by omega), rfl, g5.1 (by omega), g6.1 (by omega), rfl, g7.1 (by omega), d2⟩, d3⟩
              · refine Or.inr ⟨d1, fun rt ps nb g => ?_⟩
                obtain ⟨-, -, e1, -, -, e2, -, e3⟩ := g
                rw [e1, e2] at e3
                exact d2 nb e3
theorem rp_109 {t0 : Int32} (hJ : VJ I A b n V p m) (hp : p ≤ 700) (ht : (t0.toInt = 0 ∧ V p = 119) ∨ (t0.toInt = 1 ∧ V p ≠ 119)) (hf : f_readPosition_109 t0 I A = some o) : (o.1.toInt = 1 ∧ ∃ sd rt ps nb, (((V p = 119 ∧ sd = 0) ∨ (V p = 98 ∧ sd = 1)) ∧ V (p + 1) = 32 ∧ FEN2 V n m sd rt ps nb (p + 2)) ∧ RES o m sd rt ps nb) ∨ (o.1.toInt = 0 ∧ ∀ sd rt ps nb, ¬ (((V p = 119 ∧ sd = 0) ∨ (V p = 98 ∧ sd = 1)) ∧ V (p + 1) = 32 ∧ FEN2 V n m sd rt ps nb (p + 2))) := by
  have fin : ∀ I1, VJ I1 A b n V p m → (I1 25).toInt = t0.toInt → ((V p = 119 ∧ t0.toInt = 0) ∨ (V p = 98 ∧ t0.toInt = 1)) → f_readPosition_130 I1 A = some o → (o.1.toInt = 1 ∧ ∃ sd rt ps nb, (((V p = 119 ∧ sd = 0) ∨ (V p = 98 ∧ sd = 1)) ∧ V (p + 1) = 32 ∧ FEN2 V n m sd rt ps nb (p + 2)) ∧ RES o m sd rt ps nb) ∨ (o.1.toInt = 0 ∧ ∀ sd rt ps nb, ¬ (((V p = 119 ∧ sd = 0) ∨ (V p = 98 ∧ sd = 1)) ∧ V (p + 1) = 32 ∧ FEN2 V n m sd rt ps nb (p + 2))) := by
    intro I1 J1 h1 hc hf
    have g := rp_135 J1 hp h1 (by omega) hf
    rcases g with ⟨d1, rt, ps, nb, d2, d3⟩ | ⟨d1, d2⟩
    · exact Or.inl ⟨d1, t0.toInt, rt, ps, nb, ⟨hc, d2⟩, d3⟩
    · refine Or.inr ⟨d1, fun sd rt ps nb g => ?_⟩
      have e : sd = t0.toInt := by have := g.1; omega
      have e2 := g.2
      rw [e] at e2
      exact d2 rt ps nb e2
  unfold f_readPosition_109 at hf
  obtain ⟨I1, e_I1, hf⟩ := m_bndE hf
  have J1 : VJ I1 A b n V p m := vj_w hJ e_I1 (show (0 : Int) ≤ _ by omega) (show _ ≤ (1 : Int) by omega) (by decide) (by decide)
  have h1 : (I1 25).toInt = t0.toInt := by rw [e_I1, upd_self]
  obtain ⟨r2, h_r2, hf⟩ := m_clR hf (fun _ h => rro_sign h)
  have p_r2 := pc_sign h_r2
  dsimp only at p_r2
  rw [vj_sg J1] at p_r2
  rcases m_ifE hf with ⟨c1, hf⟩ | ⟨c1, hf⟩
  · skip
    replace c1 := ti_eqP (a := r2) (b := (119 : Int32)) c1 rfl (show (119 : Int32).toInt = 119 from rfl)
    exact fin I1 J1 h1 (by omega) hf
  · skip
    replace c1 := ti_eqN (a := r2) (b := (119 : Int32)) c1 rfl (show (119 : Int32).toInt = 119 from rfl)
    obtain ⟨r3, h_r3, hf⟩ := m_clR hf (fun _ h => rro_sign h)
    have p_r3 := pc_sign h_r3
    dsimp only at p_r3
    rw [vj_sg J1] at p_r3
    rcases m_ifE hf with ⟨c2, hf⟩ | ⟨c2, hf⟩
    · skip
      replace c2 := ti_eqP (a := r3) (b := (98 : Int32)) c2 rfl (show (98 : Int32).toInt = 98 from rfl)
      exact fin I1 J1 h1 (by omega) hf
    · skip
      replace c2 := ti_eqN (a := r3) (b := (98 : Int32)) c2 rfl (show (98 : Int32).toInt = 98 from rfl)
      exact Or.inr ⟨rp_0f hf, fun sd rt ps nb g => by have := g.1; omega⟩
theorem rp_39f : ∀ (N : Nat) (x4 : Int32) (I : Nat → Int32) (A : Nat → Nat → Int32), (-1 ≤ x4.toInt ∧ x4.toInt ≤ 7) → f_readPosition_39 N 0 x4 I A = some o → o.1.toInt = 0 := by
  intro N
  induction N with
  | zero => intro x4 I A _ hf; cases hf
  | succ N ih =>
    intro x4 I A h4 hf
    have hf : f_readPosition_39s (f_readPosition_39 N) 0 x4 I A = some o := hf
    have z0 : (0 : Int32).toInt = 0 := rfl
    unfold f_readPosition_39s at hf
    rcases m_ifE hf with ⟨c1, hf⟩ | ⟨c1, hf⟩
    · rcases m_ifE hf with ⟨c2, hf⟩ | ⟨c2, hf⟩
      · obtain ⟨-, hf⟩ := m_chkE hf
        cases hf
        rfl
      · exact absurd rfl c2
    · replace c1 := ti_ltN (a := x4) (b := (0 : Int32)) c1 rfl rfl
      rcases m_ifE hf with ⟨c2, hf⟩ | ⟨c2, hf⟩
      · unfold f_readPosition_80 f_readPosition_81 at hf
        obtain ⟨v1, e1, hf⟩ := m_bndE hf
        have t1 : v1.toInt = x4.toInt + -1 := ti_add e1 rfl (show (-1 : Int32).toInt = -1 from rfl) (by omega) (by omega)
        exact ih v1 I A (by omega) hf
      · exact absurd rfl c2
/-- what comes behind the men -/
noncomputable def FNe (V : Int → Int) (n : Int) (m : Int → Int) (sd rt ps nb p : Int) : Prop := ((V p = 119 ∧ sd = 0) ∨ (V p = 98 ∧ sd = 1)) ∧ V (p + 1) = 32 ∧ FEN2 V n m sd rt ps nb (p + 2)
theorem rp_39 : ∀ (N : Nat) (x4 : Int32) (I : Nat → Int32) (A : Nat → Nat → Int32) (p : Int) (m : Int → Int) (r : Nat), x4.toInt = (r : Int) - 1 → r ≤ 8 → VJ I A b n V p m → p + 9 * (r : Int) ≤ 600 → f_readPosition_39 N 1 x4 I A = some o → (o.1.toInt = 1 ∧ ∃ q m2 sd rt ps nb, mrV V r p m = some (q, m2) ∧ FNe V n m2 sd rt ps nb q ∧ MBd m2 ∧ RES o m2 sd rt ps nb) ∨ (o.1.toInt = 0 ∧ ∀ q m2, mrV V r p m = some (q, m2) → ∀ sd rt ps nb, ¬ FNe V n m2 sd rt ps nb q) := by
  intro N
  induction N with
  | zero => intro x4 I A p m r _ _ _ _ hf; cases hf
  | succ N ih =>
    intro x4 I A p m r h4 hr hJ hpr hf
    have hf : f_readPosition_39s (f_readPosition_39 N) 1 x4 I A = some o := hf
    have z0 : (0 : Int32).toInt = 0 := rfl
    have z1 : (1 : Int32).toInt = 1 := rfl
    have z32 : (32 : Int32).toInt = 32 := rfl
    have z47 : (47 : Int32).toInt = 47 := rfl
    have last : ∀ t0 : Int32, r = 0 → ((t0.toInt = 0 ∧ V p = 119) ∨ (t0.toInt = 1 ∧ V p ≠ 119)) → f_readPosition_109 t0 I A = some o → (o.1.toInt = 1 ∧ ∃ q m2 sd rt ps nb, mrV V r p m = some (q, m2) ∧ FNe V n m2 sd rt ps nb q ∧ MBd m2 ∧ RES o m2 sd rt ps nb) ∨ (o.1.toInt = 0 ∧ ∀ q m2, mrV V r p m = some (q, m2) → ∀ sd rt ps nb, ¬ FNe V n m2 sd rt ps nb q) := by
      intro t0 hr0 ht hf
      subst hr0
      have e : mrV V 0 p m = some (p, m) := rfl
      rcases rp_109 hJ (by omega) ht hf with ⟨d1, sd, rt, ps, nb, d2, d3⟩ | ⟨d1, d2⟩
      · exact Or.inl ⟨d1, p, m, sd, rt, ps, nb, e, d2, hJ.2.2.2.2.2.2.2.2.2, d3⟩
      · refine Or.inr ⟨d1, fun q m2 g => ?_⟩
        rw [e] at g
        cases g
        exact d2
    have stop : ∀ I1 A1, mrV V r p m = none → 0 ≤ x4.toInt → f_readPosition_80 (f_readPosition_39 N) x4 I1 A1 = some o → (o.1.toInt = 1 ∧ ∃ q m2 sd rt ps nb, mrV V r p m = some (q, m2) ∧ FNe V n m2 sd rt ps nb q ∧ MBd m2 ∧ RES o m2 sd rt ps nb) ∨ (o.1.toInt = 0 ∧ ∀ q m2, mrV V r p m = some (q, m2) → ∀ sd rt ps nb, ¬ FNe V n m2 sd rt ps nb q) := by
      intro I1 A1 hn h0 hf
      unfold f_readPosition_80 f_readPosition_81 at hf
      obtain ⟨v1, e1, hf⟩ := m_bndE hf
      have t1 : v1.toInt = x4.toInt + -1 := ti_add e1 rfl (show (-1 : Int32).toInt = -1 from rfl) (by omega) (by omega)
      refine Or.inr ⟨rp_39f N v1 I1 A1 (by omega) hf, fun q m2 g => ?_⟩
      rw [hn] at g
      cases g
    have nxt : ∀ (t0 : Int32) (k : Nat) (I1 : Nat → Int32) (A1 : Nat → Nat → Int32) (q : Int) (m2 : Int → Int), r = k + 1 → t0.toInt = (if k = 0 then 32 else 47) → VJ I1 A1 b n V q m2 → q ≤ p + 8 → rkV V (8 * (k : Int)) 9 p 0 0 m = some (q, m2) → f_readPosition_70 (f_readPosition_39 N) x4 t0 I1 A1 = some o → (o.1.toInt = 1 ∧ ∃ q m2 sd rt ps nb, mrV V r p m = some (q, m2) ∧ FNe V n m2 sd rt ps nb q ∧ MBd m2 ∧ RES o m2 sd rt ps nb) ∨ (o.1.toInt = 0 ∧ ∀ q m2, mrV V r p m = some (q, m2) → ∀ sd rt ps nb, ¬ FNe V n m2 sd rt ps nb q) := by
      intro t0 k I1 A1 q m2 hrk ht J1 hq hrv hf
      have em : mrV V r p m = if V q = (if k = 0 then 32 else 47) then mrV V k (q + 1) m2 else none := by
        rw [hrk]
        show bnd2 (rkV V (8 * (k : Int)) 9 p 0 0 m) _ = _
        rw [hrv]
        rfl
      unfold f_readPosition_70 at hf
      obtain ⟨⟨r1, I3, A3⟩, h_r1, hf⟩ := m_clE hf
      dsimp only at hf
      obtain ⟨J3, b3, g3⟩ := v_pass J1 (by omega) h_r1
      dsimp only at J3 b3 g3
      rw [ht] at g3
      rcases m_ifE hf with ⟨c1, hf⟩ | ⟨c1, hf⟩
      · replace c1 := ti_eqP (a := r1) (b := (0 : Int32)) c1 rfl rfl
        refine stop I3 A3 ?_ (by omega) hf
        rw [em, if_neg (fun g => by have := g3.2 g; omega)]
      · replace c1 := ti_eqN (a := r1) (b := (0 : Int32)) c1 rfl rfl
        unfold f_readPosition_81 at hf
        obtain ⟨v1, e1, hf⟩ := m_bndE hf
        have t1 : v1.toInt = x4.toInt + -1 := ti_add e1 rfl (show (-1 : Int32).toInt = -1 from rfl) (by omega) (by omega)
        rw [em, if_pos (g3.1 (by omega))]
        exact ih v1 I3 A3 (q + 1) m2 k (by omega) (by omega) J3 (by omega) hf
    unfold f_readPosition_39s at hf
    rcases m_ifE hf with ⟨c1, hf⟩ | ⟨c1, hf⟩
    · replace c1 := ti_ltP (a := x4) (b := (0 : Int32)) c1 rfl rfl
      rcases m_ifE hf with ⟨c2, hf⟩ | ⟨c2, hf⟩
      · exact absurd c2 (by decide)
      · obtain ⟨r1, h_r1, hf⟩ := m_clR hf (fun _ h => rro_sign h)
        have p_r1 := pc_sign h_r1
        dsimp only at p_r1
        rw [vj_sg hJ] at p_r1
        rcases m_ifE hf with ⟨c3, hf⟩ | ⟨c3, hf⟩
        · replace c3 := ti_eqP (a := r1) (b := (119 : Int32)) c3 rfl (show (119 : Int32).toInt = 119 from rfl)
          exact last 0 (by omega) (Or.inl ⟨rfl, by omega⟩) hf
        · replace c3 := ti_eqN (a := r1) (b := (119 : Int32)) c3 rfl (show (119 : Int32).toInt = 119 from rfl)
          exact last 1 (by omega) (Or.inr ⟨rfl, by omega⟩) hf
    · replace c1 := ti_ltN (a := x4) (b := (0 : Int32)) c1 rfl rfl
      obtain ⟨k, rfl⟩ : ∃ k, r = k + 1 := ⟨r - 1, by omega⟩
      rcases m_ifE hf with ⟨c2, hf⟩ | ⟨c2, hf⟩
      · exact absurd c2 (by decide)
      · obtain ⟨⟨r2, I2, A2⟩, h_r2, hf⟩ := m_clE hf
        dsimp only at hf
        have g2 := v_rank (r := (k : Int)) (by omega) (by omega) hJ (by omega) h_r2
        dsimp only at g2
        rcases m_ifE hf with ⟨c3, hf⟩ | ⟨c3, hf⟩
        · replace c3 := ti_eqP (a := r2) (b := (0 : Int32)) c3 rfl rfl
          rcases g2 with ⟨a, -⟩ | ⟨-, a⟩
          · omega
          · refine stop I2 A2 ?_ c1 hf
            show bnd2 (rkV V (8 * (k : Int)) 9 p 0 0 m) _ = none
            rw [a]
            rfl
        · replace c3 := ti_eqN (a := r2) (b := (0 : Int32)) c3 rfl rfl
          obtain ⟨q, m2, a2, a3, a4⟩ : ∃ q m2, rkV V (8 * (k : Int)) 9 p 0 0 m = some (q, m2) ∧ VJ I2 A2 b n V q m2 ∧ q ≤ p + 8 := by
            rcases g2 with ⟨-, a⟩ | ⟨a, -⟩
            · exact a
            · omega
          rcases m_ifE hf with ⟨c4, hf⟩ | ⟨c4, hf⟩
          · replace c4 := ti_leP (a := x4) (b := (0 : Int32)) c4 rfl rfl
            exact nxt 32 k I2 A2 q m2 rfl (by rw [if_pos (by omega)]; rfl) a3 a4 a2 hf
          · replace c4 := ti_leN (a := x4) (b := (0 : Int32)) c4 rfl rfl
            exact nxt 47 k I2 A2 q m2 rfl (by rw [if_neg (by omega)]; rfl) a3 a4 a2 hf
theorem rp_14 {I : Nat → Int32} (hI : TJ I) (hb : 0 ≤ b ∧ b ≤ 1440 ∧ 0 ≤ n ∧ n ≤ 96) (h38 : (I 38).toInt = b) (h39 : (I 39).toInt = b + n) (hc : ∀ i, 0 ≤ V i ∧ V i ≤ 127) : ∀ (N : Nat) (x3 : Int32) (A : Nat → Nat → Int32), (0 ≤ x3.toInt ∧ x3.toInt ≤ 64) → TK A → (∀ i, 0 ≤ i → V i = vR A b n i) → (∀ s, 0 ≤ s → s < x3.toInt → mR A s = 0) → f_readPosition_14 N x3 I A = some o → (o.1.toInt = 1 ∧ ∃ q m2 sd rt ps nb, mrV V 8 0 (fun _ => 0) = some (q, m2) ∧ FNe V n m2 sd rt ps nb q ∧ MBd m2 ∧ RES o m2 sd rt ps nb) ∨ (o.1.toInt = 0 ∧ ∀ q m2, mrV V 8 0 (fun _ => 0) = some (q, m2) → ∀ sd rt ps nb, ¬ FNe V n m2 sd rt ps nb q) := by
  intro N
  induction N with
  | zero => intro x3 A _ _ _ _ hf; cases hf
  | succ N ih =>
    intro x3 A h3 hA hV hz hf
    have hf : f_readPosition_14s (f_readPosition_14 N) x3 I A = some o := hf
    have z0 : (0 : Int32).toInt = 0 := rfl
    unfold f_readPosition_14s at hf
    rcases m_ifE hf with ⟨c1, hf⟩ | ⟨c1, hf⟩
    · replace c1 := ti_leP (a := (64 : Int32)) (b := x3) c1 (show (64 : Int32).toInt = 64 from rfl) rfl
      have m0 : mR A = (fun _ => 0) := by
        funext s
        by_cases c : 0 ≤ s ∧ s < 64
        · exact hz s c.1 (by omega)
        · unfold mR
          rw [if_neg c]
      have J : VJ I A b n V 0 (fun _ => 0) := ⟨hI, hA, hb, by omega, h39, by decide, hV, hc, m0, fun _ => show (0 : Int) ≤ 0 ∧ (0 : Int) ≤ 14 ∧ (0 : Int) ≠ 7 ∧ (0 : Int) ≠ 8 by decide⟩
      exact rp_39 mFuel 7 I A 0 (fun _ => 0) 8 rfl (by decide) J (by decide) hf
    · replace c1 := ti_leN (a := (64 : Int32)) (b := x3) c1 (show (64 : Int32).toInt = 64 from rfl) rfl
      obtain ⟨-, hf⟩ := m_chkE hf
      obtain ⟨A1, e1, hf⟩ := m_bndE hf
      obtain ⟨v2, e2, hf⟩ := m_bndE hf
      have t2 : v2.toInt = x3.toInt + 1 := ti_add e2 rfl (show (1 : Int32).toInt = 1 from rfl) (by omega) (by omega)
      have mu := mR_up e1 (by omega) (by omega)
      refine ih v2 A1 (by omega) (by rw [e1]; exact tk_w hA rfl) (fun i hi => ?_) (fun s s0 s1 => ?_) hf
      · rw [hV i hi]
        unfold vR
        rw [e1, va_up_ne _ _ (by decide)]
      · rw [mu]
        by_cases e : s = x3.toInt
        · rw [e, up_s]; rfl
        · rw [up_n e]; exact hz s s0 (by omega)
theorem v_readPosition {x1 x2 : Int32} (hI : TJ I) (hA : TK A) (h1 : x1.toInt = b) (h2 : x2.toInt = n) (hb : 0 ≤ b ∧ b ≤ 1440 ∧ 0 ≤ n ∧ n ≤ 96) (hV : ∀ i, 0 ≤ i → V i = vR A b n i) (hc : ∀ i, 0 ≤ V i ∧ V i ≤ 127) (hf : f_readPosition x1 x2 I A = some o) : (o.1.toInt = 1 ∧ ∃ m sd rt ps nb, FENp V n m sd rt ps nb ∧ MBd m ∧ RES o m sd rt ps nb) ∨ (o.1.toInt = 0 ∧ ∀ m sd rt ps nb, ¬ FENp V n m sd rt ps nb) := by
  have hf : f_readPosition_0 x1 x2 I A = some o := hf
  unfold f_readPosition_0 at hf
  obtain ⟨I1, e1, hf⟩ := m_bndE hf
  obtain ⟨v2, e2, hf⟩ := m_bndE hf
  obtain ⟨I3, e3, hf⟩ := m_bndE hf
  have t2 : v2.toInt = x1.toInt + x2.toInt := ti_add e2 rfl rfl (by omega) (by omega)
  have T1 : TJ I1 := by rw [e1]; exact tj_u hI (show (0 : Int) ≤ _ by omega) (show _ ≤ (4000 : Int) by omega)
  have T3 : TJ I3 := by rw [e3]; exact tj_u T1 (show (0 : Int) ≤ _ by omega) (show _ ≤ (1536 : Int) by omega)
  have g := rp_14 (b := b) (n := n) (V := V) T3 hb (by rw [e3, upd_ne (by decide), e1, upd_self]; exact h1) (by rw [e3, upd_self]; omega) hc mFuel 0 A (by decide) hA hV (fun s s0 s1 => by have z0 : (0 : Int32).toInt = 0 := rfl; omega) hf
  have mm := mh_mr (V := V) (p := 0) (m := fun _ => 0)
  have to : ∀ {m sd rt ps nb}, FENp V n m sd rt ps nb → ∃ q, mrV V 8 0 (fun _ => 0) = some (q, m) ∧ FNe V n m sd rt ps nb q := by
    rintro m sd rt ps nb ⟨p1, a1, a2, a3, a4, a5⟩
    rw [a1] at mm
    have e : bnd2 (some (p1, m)) (spV V) = some (p1 + 1, m) := by
      show (if V p1 = 32 then some (p1 + 1, m) else none) = _
      rw [if_pos a2]
    rw [e] at mm
    refine ⟨p1 + 1, mm.symm, a3, ?_, ?_⟩
    · rw [show p1 + 1 + 1 = p1 + 2 by omega]; exact a4
    · rw [show p1 + 1 + 2 = p1 + 3 by omega]; exact a5
  have fr : ∀ {q m sd rt ps nb}, mrV V 8 0 (fun _ => 0) = some (q, m) → FNe V n m sd rt ps nb q → FENp V n m sd rt ps nb := by
    rintro q m sd rt ps nb a1 ⟨a3, a4, a5⟩
    rw [a1] at mm
    cases hh : mhV V 8 0 (fun _ => 0) with
    | none => rw [hh] at mm; cases mm
    | some z =>
      rw [hh] at mm
      have e : (if V z.1 = 32 then some (z.1 + 1, z.2) else none) = some (q, m) := mm
      by_cases c : V z.1 = 32
      · rw [if_pos c] at e
        have e' := Option.some.inj e
        have e5 : z.1 + 1 = q := congrArg Prod.fst e'
        have e6 : z.2 = m := congrArg Prod.snd e'
        refine ⟨z.1, by rw [← e6]; exact hh, c, ?_, ?_, ?_⟩
        · rw [e5]; exact a3
        · rw [show z.1 + 2 = q + 1 by omega]; exact a4
        · rw [show z.1 + 3 = q + 2 by omega]; exact a5
      · rw [if_neg c] at e; cases e
  rcases g with ⟨d1, q, m2, sd, rt, ps, nb, d2, d3, d4, d5⟩ | ⟨d1, d2⟩
  · exact Or.inl ⟨d1, m2, sd, rt, ps, nb, fr d2 d3, d4, d5⟩
  · refine Or.inr ⟨d1, fun m sd rt ps nb h => ?_⟩
    obtain ⟨q, g1, g2⟩ := to h
    exact d2 q m g1 sd rt ps nb g2
end RPO
end
section
/-- the frame of the game reader's x0 work on its rows nr and vr -/
noncomputable def GRF (S S' : ZS) (x0 nr vr : Nat) : Prop := (∀ a, zK S a < 18 → zK S' a = zK S a ∧ zN S' a = zN S a) ∧ (∀ a j, zK S a < 18 → a ≠ nr → a ≠ vr → ¬ (a = x0 ∧ (j = 4 ∨ j = 5)) → zI S' j a = zI S j a) ∧ (∀ a j, zK S a < 18 → a ≠ nr → a ≠ vr → zP S' j a = zP S j a) ∧ (∀ a, zK S a < 18 → zK S a ≠ 13 → zA S' a = zA S a) ∧ (∀ a, zK S a < 18 → zB S' a = zB S a) ∧ (∀ a c, zK S a = 6 → a ≠ nr → a ≠ vr → zP S 0 a = some c → zA S' c = zA S c)
section GRS
variable {S S1 S2 S' : ZS} {x0 nr vr : Nat}
theorem grf_0 : GRF S S x0 nr vr := ⟨fun _ _ => ⟨rfl, rfl⟩, fun _ _ _ _ _ _ => rfl, fun _ _ _ _ _ => rfl, fun _ _ _ => rfl, fun _ _ => rfl, fun _ _ _ _ _ _ => rfl⟩
theorem grf_t (h : GRF S S1 x0 nr vr) (g : GRF S1 S2 x0 nr vr) : GRF S S2 x0 nr vr := by
  obtain ⟨h1, h2, h3, h4, h5, h6⟩ := h
  obtain ⟨g1, g2, g3, g4, g5, g6⟩ := g
  have k : ∀ a, zK S a < 18 → zK S1 a < 18 := fun a ha => by rw [(h1 a ha).1]; exact ha
  refine ⟨fun a ha => ⟨(g1 a (k a ha)).1.trans (h1 a ha).1, (g1 a (k a ha)).2.trans (h1 a ha).2⟩, fun a j ha hb hc hd => (g2 a j (k a ha) hb hc hd).trans (h2 a j ha hb hc hd), fun a j ha hb hc => (g3 a j (k a ha) hb hc).trans (h3 a j ha hb hc), fun a ha hn => (g4 a (k a ha) (by rw [(h1 a ha).1]; exact hn)).trans (h4 a ha hn), fun a ha => (g5 a (k a ha)).trans (h5 a ha), fun a c ha hb hc hd => ?_⟩
  have ha2 : zK S a < 18 := by rw [ha]; decide
  exact (g6 a c (by rw [(h1 a ha2).1]; exact ha) hb hc (by rw [h3 a 0 ha2 hb hc]; exact hd)).trans (h6 a c ha hb hc hd)
theorem grf_w {b : Nat} (h : RWF S S' b) (hb : b = nr ∨ b = vr) : GRF S S' x0 nr vr := by
  obtain ⟨h1, h2, -, -, h5, h6, h7⟩ := h
  have ne : ∀ a, a ≠ nr → a ≠ vr → a ≠ b := fun a g1 g2 e => hb.elim (fun g => g1 (e.trans g)) (fun g => g2 (e.trans g))
  exact ⟨h1, fun a j ha hn hv _ => (h2 a j ha (ne a hn hv)).1, fun a j ha hn hv => (h2 a j ha (ne a hn hv)).2, h5, h6, fun a c ha hn hv hc => h7 a c ha (ne a hn hv) hc⟩
theorem grf_I {j : Nat} {v : Int32} (e : S' = zsI S j x0 v) (hj : j = 4 ∨ j = 5) : GRF S S' x0 nr vr := by
  subst e
  refine ⟨fun _ _ => ⟨rfl, rfl⟩, fun a i _ _ _ hn => ?_, fun _ _ _ _ _ => rfl, fun _ _ _ => rfl, fun _ _ => rfl, fun _ _ _ _ _ _ => rfl⟩
  by_cases e : a = x0
  · subst e
    have : i ≠ j := fun g => hn ⟨rfl, by rw [g]; exact hj⟩
    exact zI_j this
  · exact zI_b e
end GRS
/-- while the game reader reads: its text, the place, its name and value -/
noncomputable def GRi (S0 S : ZS) (x0 tr nr vr : Nat) (ch : Int → Int) (N p : Int) (u w : List Int) : Prop := ZT S ∧ GRF S0 S x0 nr vr ∧ (zK S0 x0 = 2 ∧ zP S0 2 x0 = some tr ∧ zP S0 6 x0 = some nr ∧ zP S0 7 x0 = some vr) ∧ (zK S0 tr = 6 ∧ zK S0 nr = 6 ∧ zK S0 vr = 6 ∧ rc nr = 1 ∧ rc vr = 1 ∧ nr ≠ tr ∧ vr ≠ tr ∧ nr ≠ vr) ∧ (rwC S0 tr = ch ∧ (zI S0 1 tr).toInt = N ∧ N ≤ 2000) ∧ (zI S 4 x0).toInt = p ∧ (0 ≤ p ∧ p ≤ 90000) ∧ RWL S nr u ∧ RWL S vr w
section GRN
variable {S0 S S1 S' : ZS} {x0 tr nr vr : Nat} {ch : Int → Int} {N p q a : Int} {u w : List Int} {o : Int32 × ZS}
theorem gri_k (h : GRi S0 S x0 tr nr vr ch N p u w) : zK S x0 = 2 ∧ zK S tr = 6 ∧ zK S nr = 6 ∧ zK S vr = 6 := by
  obtain ⟨-, hF, ⟨k2, -⟩, ⟨kt, kn, kv, -⟩, -⟩ := h
  exact ⟨by rw [(hF.1 x0 (by rw [k2]; decide)).1]; exact k2, by rw [(hF.1 tr (by rw [kt]; decide)).1]; exact kt, by rw [(hF.1 nr (by rw [kn]; decide)).1]; exact kn, by rw [(hF.1 vr (by rw [kv]; decide)).1]; exact kv⟩
theorem gri_x (h : GRi S0 S x0 tr nr vr ch N p u w) : x0 ≠ nr ∧ x0 ≠ vr ∧ x0 ≠ tr := by
  obtain ⟨-, -, ⟨k2, -⟩, ⟨kt, kn, kv, -⟩, -⟩ := h
  refine ⟨fun e => ?_, fun e => ?_, fun e => ?_⟩
  · rw [← e, k2] at kn; exact absurd kn (by decide)
  · rw [← e, k2] at kv; exact absurd kv (by decide)
  · rw [← e, k2] at kt; exact absurd kt (by decide)
theorem gri_P (h : GRi S0 S x0 tr nr vr ch N p u w) : zP S 2 x0 = some tr ∧ zP S 6 x0 = some nr ∧ zP S 7 x0 = some vr := by
  obtain ⟨n1, n2, -⟩ := gri_x h
  obtain ⟨-, hF, ⟨k2, p2, p6, p7⟩, -⟩ := h
  have e := fun j => hF.2.2.1 x0 j (by rw [k2]; decide) n1 n2
  exact ⟨by rw [e]; exact p2, by rw [e]; exact p6, by rw [e]; exact p7⟩
theorem gri_t (h : GRi S0 S x0 tr nr vr ch N p u w) : rwC S tr = ch ∧ (zI S 1 tr).toInt = N := by
  obtain ⟨-, -, n3⟩ := gri_x h
  obtain ⟨-, hF, -, ⟨kt, kn, kv, -, -, m1, m2, -⟩, ⟨hch, hN, -⟩, -⟩ := h
  have i1 := hF.2.1 tr 1 (by rw [kt]; decide) (fun e => m1 e.symm) (fun e => m2 e.symm) (fun e => n3 e.1.symm)
  have i2 := hF.2.2.1 tr 0 (by rw [kt]; decide) (fun e => m1 e.symm) (fun e => m2 e.symm)
  refine ⟨?_, by rw [i1]; exact hN⟩
  rw [← hch]
  funext i
  unfold rwC
  rw [i1, i2]
  cases he : zP S0 0 tr with
  | none => rfl
  | some c =>
    have e := hF.2.2.2.2.2 tr c kt (fun e => m1 e.symm) (fun e => m2 e.symm) he
    simp only [e]
theorem rwl_I {r j : Nat} {v : Int32} {l : List Int} (h : RWL S r l) (e : S' = zsI S j x0 v) (hr : x0 ≠ r) : RWL S' r l := by
  subst e
  have i1 : zI (zsI S j x0 v) 1 r = zI S 1 r := zI_b (fun e => hr e.symm)
  refine ⟨by rw [i1]; exact h.1, fun i => ?_⟩
  rw [← h.2 i]
  unfold rwC
  rw [i1]
  rfl
theorem gri_at {v : Int32} (h : GRi S0 S x0 tr nr vr ch N p u w) (e : S' = zsI S 4 x0 v) (hv : v.toInt = q) (hq : 0 ≤ q ∧ q ≤ 90000) : GRi S0 S' x0 tr nr vr ch N q u w := by
  obtain ⟨n1, n2, -⟩ := gri_x h
  have k2 := (gri_k h).1
  obtain ⟨hT, hF, a1, a2, a3, -, -, hu, hw⟩ := h
  exact ⟨e.symm ▸ zt_I hT k2 (by decide) (show (0 : Int) ≤ v.toInt ∧ v.toInt ≤ (90100 : Int) by omega), grf_t hF (grf_I e (Or.inl rfl)), a1, a2, a3, by rw [e, zI_self]; exact hv, hq, rwl_I hu e n1, rwl_I hw e n2⟩
theorem gri_fl {v : Int32} (h : GRi S0 S x0 tr nr vr ch N p u w) (e : S' = zsI S 5 x0 v) : GRi S0 S' x0 tr nr vr ch N p u w := by
  obtain ⟨n1, n2, -⟩ := gri_x h
  have k2 := (gri_k h).1
  obtain ⟨hT, hF, a1, a2, a3, a4, a5, hu, hw⟩ := h
  exact ⟨e.symm ▸ zt_W hT k2 (by decide) rfl, grf_t hF (grf_I e (Or.inr rfl)), a1, a2, a3, by rw [e, zI_j (by decide)]; exact a4, a5, rwl_I hu e n1, rwl_I hw e n2⟩
theorem rwf_l {b r : Nat} {l : List Int} (h : RWF S S' b) (hr : zK S r = 6) (hb : r ≠ b) (hl : RWL S r l) : RWL S' r l := by
  refine ⟨by rw [(h.2.1 r 1 (by rw [hr]; decide) hb).1]; exact hl.1, fun i => ?_⟩
  rw [rwf_rw h hr hb]
  exact hl.2 i
/-- a sign more in the name, or in the value -/
theorem gri_pn {c y : Int32} (h : GRi S0 S x0 tr nr vr ch N p u w) (hl : (u.length : Int) < 2000) (hc : 0 ≤ c.toInt ∧ c.toInt ≤ 65535) (hf : d_X6_put nr c S = some (y, S')) : GRi S0 S' x0 tr nr vr ch N p (u ++ [c.toInt]) w := by
  obtain ⟨n1, n2, -⟩ := gri_x h
  obtain ⟨k2, kt, kn, kv⟩ := gri_k h
  obtain ⟨hT, hF, a1, a2, a3, a4, a5, hu, hw⟩ := h
  have rl : rL nr = 2000 := by
    unfold rL
    rw [a2.2.2.2.1, if_neg (by decide), if_pos (Or.inl rfl)]
  have T1 : ZT S' := (ok_of (t_d_X6_put (SZ := S) hT (rp_0 S) kn hc (by rw [rl, hu.1]; exact hl) (by rw [a2.2.2.2.1]; decide)) hf).1
  obtain ⟨g1, g2⟩ := p_rput hT kn hu (by omega) hc hf
  exact ⟨T1, grf_t hF (grf_w g2 (Or.inl rfl)), a1, a2, a3, by rw [(g2.2.1 x0 4 (by rw [k2]; decide) n1).1]; exact a4, a5, g1, rwf_l g2 kv (fun e => a2.2.2.2.2.2.2.2 e.symm) hw⟩
theorem gri_pv {c y : Int32} (h : GRi S0 S x0 tr nr vr ch N p u w) (hl : (w.length : Int) < 2000) (hc : 0 ≤ c.toInt ∧ c.toInt ≤ 65535) (hf : d_X6_put vr c S = some (y, S')) : GRi S0 S' x0 tr nr vr ch N p u (w ++ [c.toInt]) := by
  obtain ⟨n1, n2, -⟩ := gri_x h
  obtain ⟨k2, kt, kn, kv⟩ := gri_k h
  obtain ⟨hT, hF, a1, a2, a3, a4, a5, hu, hw⟩ := h
  have rl : rL vr = 2000 := by
    unfold rL
    rw [a2.2.2.2.2.1, if_neg (by decide), if_pos (Or.inl rfl)]
  have T1 : ZT S' := (ok_of (t_d_X6_put (SZ := S) hT (rp_0 S) kv hc (by rw [rl, hw.1]; exact hl) (by rw [a2.2.2.2.2.1]; decide)) hf).1
  obtain ⟨g1, g2⟩ := p_rput hT kv hw (by omega) hc hf
  exact ⟨T1, grf_t hF (grf_w g2 (Or.inr rfl)), a1, a2, a3, by rw [(g2.2.1 x0 4 (by rw [k2]; decide) n2).1]; exact a4, a5, rwf_l g2 kn a2.2.2.2.2.2.2.2 hu, g1⟩
theorem gri_kn {y : Int32} (h : GRi S0 S x0 tr nr vr ch N p u w) (hf : f_X6_keep nr 0 S = some (y, S')) : GRi S0 S' x0 tr nr vr ch N p [] w := by
  obtain ⟨n1, n2, -⟩ := gri_x h
  obtain ⟨k2, kt, kn, kv⟩ := gri_k h
  obtain ⟨hT, hF, a1, a2, a3, a4, a5, hu, hw⟩ := h
  have T1 : ZT S' := (ok_of (t_f_X6_keep (SZ := S) hT (a7_0 S) kn (by rw [a2.2.2.2.1]; decide)) hf).1
  obtain ⟨g1, g2, -⟩ := p_keep hu (show (0 : Int) ≤ (0 : Int32).toInt by decide) hf
  rw [show (0 : Int32).toInt.toNat = 0 from rfl, List.take_zero] at g1
  exact ⟨T1, grf_t hF (grf_w g2 (Or.inl rfl)), a1, a2, a3, by rw [(g2.2.1 x0 4 (by rw [k2]; decide) n1).1]; exact a4, a5, g1, rwf_l g2 kv (fun e => a2.2.2.2.2.2.2.2 e.symm) hw⟩
theorem gri_kv {y : Int32} (h : GRi S0 S x0 tr nr vr ch N p u w) (hf : f_X6_keep vr 0 S = some (y, S')) : GRi S0 S' x0 tr nr vr ch N p u [] := by
  obtain ⟨n1, n2, -⟩ := gri_x h
  obtain ⟨k2, kt, kn, kv⟩ := gri_k h
  obtain ⟨hT, hF, a1, a2, a3, a4, a5, hu, hw⟩ := h
  have T1 : ZT S' := (ok_of (t_f_X6_keep (SZ := S) hT (a7_0 S) kv (by rw [a2.2.2.2.2.1]; decide)) hf).1
  obtain ⟨g1, g2, -⟩ := p_keep hw (show (0 : Int) ≤ (0 : Int32).toInt by decide) hf
  rw [show (0 : Int32).toInt.toNat = 0 from rfl, List.take_zero] at g1
  exact ⟨T1, grf_t hF (grf_w g2 (Or.inr rfl)), a1, a2, a3, by rw [(g2.2.1 x0 4 (by rw [k2]; decide) n2).1]; exact a4, a5, rwf_l g2 kn a2.2.2.2.2.2.2.2 hu, g1⟩
theorem p_refuse {x1 x2 : Int32} (h1 : 0 ≤ x1.toInt ∧ x1.toInt ≤ 10) (h2 : 0 ≤ x2.toInt ∧ x2.toInt ≤ 100000) (hf : f_X2_refuse x0 x1 x2 S = some o) : o.1.toInt = 0 ∧ ∃ v : Int32, v.toInt = 10000 * x1.toInt + x2.toInt ∧ o.2 = zsI S 5 x0 v := by
  have hf : f_X2_refuse_0 x0 x1 x2 S = some o := hf
  unfold f_X2_refuse_0 at hf
  obtain ⟨v1, e_v1, hf⟩ := m_bndE hf
  have t_v1 : v1.toInt = 10000 * x1.toInt := ti_mul e_v1 (show (10000 : Int32).toInt = 10000 from rfl) rfl (by omega) (by omega)
  obtain ⟨v2, e_v2, hf⟩ := m_bndE hf
  have t_v2 : v2.toInt = v1.toInt + x2.toInt := ti_add e_v2 rfl rfl (by omega) (by omega)
  obtain ⟨-, hf⟩ := m_chkE hf
  obtain ⟨S3, e_S3, hf⟩ := m_bndE hf
  obtain ⟨-, hf⟩ := m_chkE hf
  cases hf
  try dsimp only
  exact ⟨rfl, v2, by omega, e_S3⟩
theorem gri_bl (h : GRi S0 S x0 tr nr vr ch N p u w) (hf : f_X2_skipBlanks x0 S = some o) : ∃ a, BL ch p a ∧ GRi S0 o.2 x0 tr nr vr ch N a u w ∧ (a ≤ p ∨ a ≤ N) := by
  obtain ⟨k2, kt, -, -⟩ := gri_k h
  obtain ⟨P2, -, -⟩ := gri_P h
  obtain ⟨hc, hN⟩ := gri_t h
  have h4 := h.2.2.2.2.2.1
  have hp := h.2.2.2.2.2.2.1
  have hn := h.2.2.2.2.1.2.2
  obtain ⟨v, g1, g2, g3⟩ := p_skipBlanks k2 kt P2 hc (by omega) (by omega) hf
  rw [h4] at g1 g3
  rw [hN] at g3
  have := g1.1
  exact ⟨v.toInt, g1, gri_at h g2 rfl (by omega), g3⟩
/-- the signs from a on, k of them -/
noncomputable def wr (ch : Int → Int) (a : Int) : Nat → List Int
  | 0 => []
  | k + 1 => wr ch a k ++ [ch (a + (k : Int))]
theorem wr_len {ch : Int → Int} {a : Int} : ∀ k : Nat, (wr ch a k).length = k
  | 0 => rfl
  | k + 1 => by
    show (wr ch a k ++ [ch (a + (k : Int))]).length = k + 1
    rw [List.length_append, wr_len k]
    rfl
noncomputable def nmC (c : Int) : Prop := isL c ∨ isD c
/-- a name from a to b -/
noncomputable def NM (ch : Int → Int) (a b : Int) : Prop := a ≤ b ∧ (∀ j, a ≤ j → j < b → nmC (ch j)) ∧ ¬ nmC (ch b)
theorem rn_101 (h : GRi S0 S x0 tr nr vr ch N p u w) (hf : d_X2_readName_101 x0 S = some o) : (u ≠ [] ∧ o.1.toInt = 1 ∧ o.2 = S) ∨ (u = [] ∧ o.1.toInt = 0 ∧ GRi S0 o.2 x0 tr nr vr ch N p u w ∧ (zI o.2 5 x0).toInt = 10000 + p) := by
  obtain ⟨k2, kt, kn, kv⟩ := gri_k h
  obtain ⟨P2, P6, P7⟩ := gri_P h
  have h4 := h.2.2.2.2.2.1
  have hp := h.2.2.2.2.2.2.1
  have hu := h.2.2.2.2.2.2.2.1
  have z1 : (1 : Int32).toInt = 1 := rfl
  unfold d_X2_readName_101 at hf
  obtain ⟨-, hf⟩ := m_chkE hf
  replace hf := m_calY hf P6
  obtain ⟨-, hf⟩ := m_chkE hf
  obtain ⟨r2, h_r2, hf⟩ := m_calR hf (fun _ h => ro_X6_size h)
  dsimp only at hf
  have p_r2 := pc_X6_size h_r2
  dsimp only at p_r2
  have q2 : r2.toInt = (u.length : Int) := by rw [p_r2]; exact hu.1
  obtain ⟨-, hf⟩ := m_chkE hf
  rcases m_ifE hf with ⟨c1, hf⟩ | ⟨c1, hf⟩
  · skip
    replace c1 := ti_ltP (a := (0 : Int32)) (b := r2) c1 (show (0 : Int32).toInt = 0 from rfl) rfl
    unfold d_X2_readName_123 at hf
    unfold d_X2_readName_128 at hf
    obtain ⟨-, hf⟩ := m_chkE hf
    cases hf
    try dsimp only
    refine Or.inl ⟨fun e => ?_, rfl, rfl⟩
    rw [e] at q2
    have : ((([] : List Int).length : Nat) : Int) = 0 := rfl
    omega
  · skip
    replace c1 := ti_ltN (a := (0 : Int32)) (b := r2) c1 (show (0 : Int32).toInt = 0 from rfl) rfl
    obtain ⟨-, hf⟩ := m_chkE hf
    obtain ⟨-, hf⟩ := m_chkE hf
    obtain ⟨⟨r3, S3c⟩, h_r3, hf⟩ := m_calE hf
    dsimp only at hf
    obtain ⟨g1, v, g2, g3⟩ := p_refuse (x1 := 1) (x2 := zI S 4 x0) (by decide) (by omega) h_r3
    dsimp only at g1 g2 g3
    have hu0 : u = [] := List.eq_nil_of_length_eq_zero (by omega)
    obtain ⟨-, hf⟩ := m_chkE hf
    rcases m_ifE hf with ⟨c2, hf⟩ | ⟨c2, hf⟩
    · skip
      replace c2 := ti_eqP (a := r3) (b := (0 : Int32)) c2 rfl (show (0 : Int32).toInt = 0 from rfl)
      unfold d_X2_readName_128 at hf
      obtain ⟨-, hf⟩ := m_chkE hf
      cases hf
      try dsimp only
      exact Or.inr ⟨hu0, rfl, gri_fl h g3, by rw [g3, zI_self, g2]; omega⟩
    · skip
      replace c2 := ti_eqN (a := r3) (b := (0 : Int32)) c2 rfl (show (0 : Int32).toInt = 0 from rfl)
      unfold d_X2_readName_123 at hf
      unfold d_X2_readName_128 at hf
      obtain ⟨-, hf⟩ := m_chkE hf
      cases hf
      try dsimp only
      omega
theorem rn_22 : ∀ (n : Nat) (S : ZS) (k : Nat), GRi S0 S x0 tr nr vr ch N (a + (k : Int)) (wr ch a k) w → (∀ j, a ≤ j → j < a + (k : Int) → nmC (ch j)) → 0 ≤ a → (∀ i, 0 ≤ ch i ∧ ch i ≤ 127) → d_X2_readName_22 n x0 S = some o → ∃ b, NM ch a b ∧ GRi S0 o.2 x0 tr nr vr ch N b (wr ch a (b - a).toNat) w ∧ ((a < b ∧ o.1.toInt = 1) ∨ (a = b ∧ o.1.toInt = 0 ∧ (zI o.2 5 x0).toInt = 10000 + b)) := by
  intro n
  induction n with
  | zero => intro S k _ _ _ _ hf; cases hf
  | succ n ih =>
    intro S k h hd h0 hcb hf
    have hf : d_X2_readName_22s (d_X2_readName_22 n) x0 S = some o := hf
    obtain ⟨k2, kt, kn, kv⟩ := gri_k h
    obtain ⟨P2, P6, P7⟩ := gri_P h
    obtain ⟨hc, hN⟩ := gri_t h
    have h4 := h.2.2.2.2.2.1
    have hp := h.2.2.2.2.2.2.1
    have hn := h.2.2.2.2.1.2.2
    have b0 := hcb (a + (k : Int))
    have out : N ≤ a + (k : Int) → ch (a + (k : Int)) = 0 := fun g => by rw [← hc]; exact rw_out (by omega)
    have stop : ¬ nmC (ch (a + (k : Int))) → d_X2_readName_101 x0 S = some o → ∃ b, NM ch a b ∧ GRi S0 o.2 x0 tr nr vr ch N b (wr ch a (b - a).toNat) w ∧ ((a < b ∧ o.1.toInt = 1) ∨ (a = b ∧ o.1.toInt = 0 ∧ (zI o.2 5 x0).toInt = 10000 + b)) := by
      intro hs hf
      have e : (a + (k : Int) - a).toNat = k := by omega
      refine ⟨a + (k : Int), ⟨by omega, hd, hs⟩, ?_⟩
      rw [e]
      rcases rn_101 h hf with ⟨g1, g2, g3⟩ | ⟨g1, g2, g3, g4⟩
      · refine ⟨by rw [g3]; exact h, Or.inl ⟨?_, g2⟩⟩
        have : k ≠ 0 := fun e => g1 (by rw [e]; rfl)
        omega
      · refine ⟨g3, Or.inr ⟨?_, g2, g4⟩⟩
        have := wr_len (ch := ch) (a := a) k
        rw [g1] at this
        have : (0 : Nat) = k := this
        omega
    have more : nmC (ch (a + (k : Int))) → a + (k : Int) < N → d_X2_readName_70 (d_X2_readName_22 n) x0 S = some o → ∃ b, NM ch a b ∧ GRi S0 o.2 x0 tr nr vr ch N b (wr ch a (b - a).toNat) w ∧ ((a < b ∧ o.1.toInt = 1) ∨ (a = b ∧ o.1.toInt = 0 ∧ (zI o.2 5 x0).toInt = 10000 + b)) := by
      intro hs hlt hf
      unfold d_X2_readName_70 at hf
      obtain ⟨-, hf⟩ := m_chkE hf
      replace hf := m_calY hf P6
      obtain ⟨-, hf⟩ := m_chkE hf
      replace hf := m_calY hf P2
      obtain ⟨-, hf⟩ := m_chkE hf
      obtain ⟨-, hf⟩ := m_chkE hf
      obtain ⟨r3, h_r3, hf⟩ := m_calR hf (fun _ h => ro_X6_at h)
      dsimp only at hf
      have p_r3 := pc_X6_at h_r3
      dsimp only at p_r3
      rw [hc, h4] at p_r3
      obtain ⟨-, hf⟩ := m_chkE hf
      obtain ⟨-, hf⟩ := m_chkE hf
      obtain ⟨⟨r5, S6⟩, h_r5, hf⟩ := m_cal2E hf
      dsimp only at hf
      have G6 := gri_pn h (by rw [wr_len]; omega) (by omega) h_r5
      have h64 := G6.2.2.2.2.2.1
      rw [p_r3] at G6
      obtain ⟨-, hf⟩ := m_chkE hf
      obtain ⟨v9, e_v9, hf⟩ := m_bndE hf
      have t_v9 : v9.toInt = (zI S6 4 x0).toInt + 1 := ti_add e_v9 rfl (show (1 : Int32).toInt = 1 from rfl) (by omega) (by omega)
      obtain ⟨-, hf⟩ := m_chkE hf
      obtain ⟨S10, e_S10, hf⟩ := m_bndE hf
      have G10 : GRi S0 S10 x0 tr nr vr ch N (a + ((k + 1 : Nat) : Int)) (wr ch a (k + 1)) w := gri_at G6 e_S10 (by omega) (by omega)
      refine ih S10 (k + 1) G10 (fun j j0 j1 => ?_) h0 hcb hf
      by_cases e : j = a + (k : Int)
      · rw [e]; exact hs
      · exact hd j j0 (by omega)
    unfold d_X2_readName_22s at hf
    obtain ⟨-, hf⟩ := m_chkE hf
    obtain ⟨-, hf⟩ := m_chkE hf
    replace hf := m_calY hf P2
    obtain ⟨-, hf⟩ := m_chkE hf
    obtain ⟨r2, h_r2, hf⟩ := m_calR hf (fun _ h => ro_X6_size h)
    dsimp only at hf
    have p_r2 := pc_X6_size h_r2
    dsimp only at p_r2
    have q2 : r2.toInt = N := by rw [p_r2]; exact hN
    obtain ⟨-, hf⟩ := m_chkE hf
    rcases m_ifE hf with ⟨c1, hf⟩ | ⟨c1, hf⟩
    · skip
      replace c1 := ti_leP (a := r2) (b := (zI S 4 x0)) c1 rfl rfl
      refine stop ?_ hf
      rw [out (by omega)]
      unfold nmC isL isD
      omega
    · skip
      replace c1 := ti_leN (a := r2) (b := (zI S 4 x0)) c1 rfl rfl
      obtain ⟨-, hf⟩ := m_chkE hf
      replace hf := m_calY hf P2
      obtain ⟨-, hf⟩ := m_chkE hf
      obtain ⟨-, hf⟩ := m_chkE hf
      obtain ⟨r4, h_r4, hf⟩ := m_calR hf (fun _ h => ro_X6_at h)
      dsimp only at hf
      have p_r4 := pc_X6_at h_r4
      dsimp only at p_r4
      rw [hc, h4] at p_r4
      obtain ⟨-, hf⟩ := m_chkE hf
      obtain ⟨r5, h_r5, hf⟩ := m_calR hf (fun _ h => ro_X11_isLetter h)
      dsimp only at hf
      have p_r5 := pc_X11_isLetter h_r5
      dsimp only at p_r5
      rw [p_r4] at p_r5
      obtain ⟨-, hf⟩ := m_chkE hf
      rcases m_ifE hf with ⟨c2, hf⟩ | ⟨c2, hf⟩
      · skip
        replace c2 := ti_eqP (a := r5) (b := (0 : Int32)) c2 rfl (show (0 : Int32).toInt = 0 from rfl)
        obtain ⟨-, hf⟩ := m_chkE hf
        replace hf := m_calY hf P2
        obtain ⟨-, hf⟩ := m_chkE hf
        obtain ⟨-, hf⟩ := m_chkE hf
        obtain ⟨r7, h_r7, hf⟩ := m_calR hf (fun _ h => ro_X6_at h)
        dsimp only at hf
        have p_r7 := pc_X6_at h_r7
        dsimp only at p_r7
        rw [hc, h4] at p_r7
        obtain ⟨-, hf⟩ := m_chkE hf
        obtain ⟨r8, h_r8, hf⟩ := m_calR hf (fun _ h => ro_X11_isDigit h)
        dsimp only at hf
        have p_r8 := pc_X11_isDigit h_r8
        dsimp only at p_r8
        rw [p_r7] at p_r8
        obtain ⟨-, hf⟩ := m_chkE hf
        rcases m_ifE hf with ⟨c3, hf⟩ | ⟨c3, hf⟩
        · skip
          replace c3 := ti_eqP (a := r8) (b := (0 : Int32)) c3 rfl (show (0 : Int32).toInt = 0 from rfl)
          refine stop (fun g => ?_) hf
          rcases g with g | g
          · have := p_r5.2.2 g; omega
          · have := p_r8.2.2 g; omega
        · skip
          replace c3 := ti_eqN (a := r8) (b := (0 : Int32)) c3 rfl (show (0 : Int32).toInt = 0 from rfl)
          exact more (Or.inr (p_r8.2.1 (by omega))) (by omega) hf
      · skip
        replace c2 := ti_eqN (a := r5) (b := (0 : Int32)) c2 rfl (show (0 : Int32).toInt = 0 from rfl)
        exact more (Or.inl (p_r5.2.1 (by omega))) (by omega) hf
end GRN
end
section
/-- a tag's value from p on: whether it is sound, where it ends, its signs -/
noncomputable def vlP (ch : Int → Int) (N : Int) : Nat → Int → List Int → Bool × Int × List Int
  | 0, p, w => (false, p, w)
  | k + 1, p, w => if ch p = 34 then (true, p + 1, w) else if ch p = 92 then (if ch (p + 1) = 34 ∨ ch (p + 1) = 92 then vlP ch N k (p + 2) (w ++ [ch (p + 1)]) else (false, p + 1, w)) else if N ≤ p ∨ ch p = 10 then (false, p, w) else vlP ch N k (p + 1) (w ++ [ch p])
section VLS
variable {ch : Int → Int} {N p : Int} {k : Nat} {w : List Int}
theorem vl_q (h : ch p = 34) : vlP ch N (k + 1) p w = (true, p + 1, w) := if_pos h
theorem vl_e (h : ch p = 92) (g : ch (p + 1) = 34 ∨ ch (p + 1) = 92) : vlP ch N (k + 1) p w = vlP ch N k (p + 2) (w ++ [ch (p + 1)]) := by
  show (if ch p = 34 then _ else if ch p = 92 then (if ch (p + 1) = 34 ∨ ch (p + 1) = 92 then vlP ch N k (p + 2) (w ++ [ch (p + 1)]) else _) else _) = _
  rw [if_neg (by omega), if_pos h, if_pos g]
theorem vl_f (h : ch p = 92) (g : ¬ (ch (p + 1) = 34 ∨ ch (p + 1) = 92)) : vlP ch N (k + 1) p w = (false, p + 1, w) := by
  show (if ch p = 34 then _ else if ch p = 92 then (if ch (p + 1) = 34 ∨ ch (p + 1) = 92 then vlP ch N k (p + 2) (w ++ [ch (p + 1)]) else (false, p + 1, w)) else _) = _
  rw [if_neg (by omega), if_pos h, if_neg g]
theorem vl_n (h1 : ch p ≠ 34) (h2 : ch p ≠ 92) (h : N ≤ p ∨ ch p = 10) : vlP ch N (k + 1) p w = (false, p, w) := by
  show (if ch p = 34 then _ else if ch p = 92 then _ else if N ≤ p ∨ ch p = 10 then (false, p, w) else _) = _
  rw [if_neg h1, if_neg h2, if_pos h]
theorem vl_s (h1 : ch p ≠ 34) (h2 : ch p ≠ 92) (h : ¬ (N ≤ p ∨ ch p = 10)) : vlP ch N (k + 1) p w = vlP ch N k (p + 1) (w ++ [ch p]) := by
  show (if ch p = 34 then _ else if ch p = 92 then _ else if N ≤ p ∨ ch p = 10 then (false, p, w) else vlP ch N k (p + 1) (w ++ [ch p])) = _
  rw [if_neg h1, if_neg h2, if_neg h]
end VLS
section GRV
variable {S0 S S1 S' : ZS} {x0 tr nr vr : Nat} {ch : Int → Int} {N p q a : Int} {u w : List Int} {o : Int32 × ZS}
theorem p_readName (h : GRi S0 S x0 tr nr vr ch N p u w) (hp : p ≤ 80000) (hcb : ∀ i, 0 ≤ ch i ∧ ch i ≤ 127) (hf : d_X2_readName x0 S = some o) : ∃ a b, BL ch (p + 1) a ∧ NM ch a b ∧ GRi S0 o.2 x0 tr nr vr ch N b (wr ch a (b - a).toNat) w ∧ ((a < b ∧ o.1.toInt = 1) ∨ (a = b ∧ o.1.toInt = 0 ∧ (zI o.2 5 x0).toInt = 10000 + b)) := by
  have hf : d_X2_readName_0 x0 S = some o := hf
  have h4 := h.2.2.2.2.2.1
  have hp0 := h.2.2.2.2.2.2.1
  unfold d_X2_readName_0 at hf
  obtain ⟨-, hf⟩ := m_chkE hf
  obtain ⟨v1, e_v1, hf⟩ := m_bndE hf
  have t_v1 : v1.toInt = (zI S 4 x0).toInt + 1 := ti_add e_v1 rfl (show (1 : Int32).toInt = 1 from rfl) (by omega) (by omega)
  obtain ⟨-, hf⟩ := m_chkE hf
  obtain ⟨S2, e_S2, hf⟩ := m_bndE hf
  have G2 : GRi S0 S2 x0 tr nr vr ch N (p + 1) u w := gri_at h e_S2 (by omega) (by omega)
  obtain ⟨-, hf⟩ := m_chkE hf
  obtain ⟨⟨r3, S3c⟩, h_r3, hf⟩ := m_calE hf
  dsimp only at hf
  obtain ⟨a, g1, G3, -⟩ := gri_bl G2 h_r3
  dsimp only at G3
  obtain ⟨P2, P6, P7⟩ := gri_P G3
  obtain ⟨-, hf⟩ := m_chkE hf
  obtain ⟨-, hf⟩ := m_chkE hf
  replace hf := m_calY hf P6
  obtain ⟨-, hf⟩ := m_chkE hf
  obtain ⟨⟨r5, S5c⟩, h_r5, hf⟩ := m_calE hf
  dsimp only at hf
  have G5 := gri_kn G3 h_r5
  have a0 := G5.2.2.2.2.2.2.1
  obtain ⟨-, hf⟩ := m_chkE hf
  obtain ⟨b, g2, g3⟩ := rn_22 (a := a) mFuel S5c 0 (by rw [show a + ((0 : Nat) : Int) = a by omega]; exact G5) (fun j j0 j1 => by omega) a0.1 hcb hf
  exact ⟨a, b, g1, g2, g3⟩
/-- how the reading of a value ends -/
noncomputable def VLo (S0 : ZS) (x0 tr nr vr : Nat) (ch : Int → Int) (N : Int) (u : List Int) (r : Bool × Int × List Int) (o : Int32 × ZS) : Prop := GRi S0 o.2 x0 tr nr vr ch N r.2.1 u r.2.2 ∧ ((r.1 = true ∧ o.1.toInt = 1) ∨ (r.1 = false ∧ o.1.toInt = 0 ∧ (zI o.2 5 x0).toInt = 10000 + r.2.1))
theorem vl_no (h : GRi S0 S x0 tr nr vr ch N p u w) {x2 : Int32} (h2 : x2.toInt = p) (hp : p ≤ 3000) (hf : f_X2_refuse x0 1 x2 S = some o) : VLo S0 x0 tr nr vr ch N u (false, p, w) o := by
  have hp0 := h.2.2.2.2.2.2.1
  obtain ⟨g1, v, g2, g3⟩ := p_refuse (x1 := 1) (x2 := x2) (by decide) (by omega) hf
  have z1 : (1 : Int32).toInt = 1 := rfl
  exact ⟨gri_fl h g3, Or.inr ⟨rfl, g1, by rw [g3, zI_self, g2]; show _ = 10000 + p; omega⟩⟩
theorem rv_48 (hcb : ∀ i, 0 ≤ ch i ∧ ch i ≤ 127) : ∀ (n : Nat) (S : ZS) (k : Nat) (p : Int) (w : List Int), GRi S0 S x0 tr nr vr ch N p u w → N < p + (k : Int) → 1 ≤ k → p ≤ N + 1 → (w.length : Int) ≤ p → d_X2_readValue_48 n x0 S = some o → VLo S0 x0 tr nr vr ch N u (vlP ch N k p w) o := by
  intro n
  induction n with
  | zero => intro S k p w _ _ _ _ _ hf; cases hf
  | succ n ih =>
    intro S k p w h hk hk1 hpN hwl hf
    have hf : d_X2_readValue_48s (d_X2_readValue_48 n) x0 S = some o := hf
    obtain ⟨k2, rfl⟩ : ∃ k2, k = k2 + 1 := ⟨k - 1, by omega⟩
    obtain ⟨kk, kt, kn, kv⟩ := gri_k h
    obtain ⟨P2, P6, P7⟩ := gri_P h
    obtain ⟨hc, hN⟩ := gri_t h
    have h4 := h.2.2.2.2.2.1
    have hp := h.2.2.2.2.2.2.1
    have hn := h.2.2.2.2.1.2.2
    have b0 := hcb p
    have b1 := hcb (p + 1)
    have out : N ≤ p → ch p = 0 := fun g => by rw [← hc]; exact rw_out (by omega)
    have cont : ∀ S1 (c : Int32) (p' : Int), GRi S0 S1 x0 tr nr vr ch N p' u w → c.toInt = ch p' → ch p' ≠ 10 → p ≤ p' → p' ≤ N → (w.length : Int) < 2000 → p < N → vlP ch N (k2 + 1) p w = vlP ch N k2 (p' + 1) (w ++ [ch p']) → d_X2_readValue_142 (d_X2_readValue_48 n) x0 c S1 = some o → VLo S0 x0 tr nr vr ch N u (vlP ch N (k2 + 1) p w) o := by
      intro S1 c p' G1 hcc hn10 hpp hpn hl hpl er hf
      obtain ⟨-, -, Q7⟩ := gri_P G1
      have b2 := hcb p'
      have hp' := G1.2.2.2.2.2.2.1
      unfold d_X2_readValue_142 at hf
      rcases m_ifE hf with ⟨c1, hf⟩ | ⟨c1, hf⟩
      · skip
        replace c1 := ti_eqP (a := c) (b := (10 : Int32)) c1 rfl (show (10 : Int32).toInt = 10 from rfl)
        omega
      · skip
        replace c1 := ti_eqN (a := c) (b := (10 : Int32)) c1 rfl (show (10 : Int32).toInt = 10 from rfl)
        obtain ⟨-, hf⟩ := m_chkE hf
        replace hf := m_calY hf Q7
        obtain ⟨-, hf⟩ := m_chkE hf
        obtain ⟨⟨r3, S4⟩, h_r3, hf⟩ := m_cal2E hf
        dsimp only at hf
        have G4 := gri_pv G1 hl (by omega) h_r3
        have h44 := G4.2.2.2.2.2.1
        rw [hcc] at G4
        obtain ⟨-, hf⟩ := m_chkE hf
        obtain ⟨v7, e_v7, hf⟩ := m_bndE hf
        have t_v7 : v7.toInt = (zI S4 4 x0).toInt + 1 := ti_add e_v7 rfl (show (1 : Int32).toInt = 1 from rfl) (by omega) (by omega)
        obtain ⟨-, hf⟩ := m_chkE hf
        obtain ⟨S8, e_S8, hf⟩ := m_bndE hf
        have G8 : GRi S0 S8 x0 tr nr vr ch N (p' + 1) u (w ++ [ch p']) := gri_at G4 e_S8 (by omega) (by omega)
        rw [er]
        refine ih S8 k2 (p' + 1) (w ++ [ch p']) G8 (by omega) (by omega) (by omega) ?_ hf
        rw [List.length_append]
        have : ([ch p'] : List Int).length = 1 := rfl
        omega
    unfold d_X2_readValue_48s at hf
    obtain ⟨-, hf⟩ := m_chkE hf
    obtain ⟨-, hf⟩ := m_chkE hf
    replace hf := m_calY hf P2
    obtain ⟨-, hf⟩ := m_chkE hf
    obtain ⟨r2, h_r2, hf⟩ := m_calR hf (fun _ h => ro_X6_size h)
    dsimp only at hf
    have p_r2 := pc_X6_size h_r2
    dsimp only at p_r2
    have q2 : r2.toInt = N := by rw [p_r2]; exact hN
    obtain ⟨-, hf⟩ := m_chkE hf
    rcases m_ifE hf with ⟨c1, hf⟩ | ⟨c1, hf⟩
    · skip
      replace c1 := ti_leP (a := r2) (b := (zI S 4 x0)) c1 rfl rfl
      obtain ⟨-, hf⟩ := m_chkE hf
      obtain ⟨-, hf⟩ := m_chkE hf
      obtain ⟨⟨r3, S3c⟩, h_r3, hf⟩ := m_calE hf
      dsimp only at hf
      have g3 := vl_no h h4 (by omega) h_r3
      rw [← vl_n (ch := ch) (p := p) (w := w) (N := N) (k := k2) (by rw [out (by omega)]; decide) (by rw [out (by omega)]; decide) (Or.inl (by omega))] at g3
      obtain ⟨-, hf⟩ := m_chkE hf
      obtain ⟨-, hf⟩ := m_chkE hf
      cases hf
      try dsimp only
      exact g3
    · skip
      replace c1 := ti_leN (a := r2) (b := (zI S 4 x0)) c1 rfl rfl
      obtain ⟨-, hf⟩ := m_chkE hf
      replace hf := m_calY hf P2
      obtain ⟨-, hf⟩ := m_chkE hf
      obtain ⟨-, hf⟩ := m_chkE hf
      obtain ⟨r5, h_r5, hf⟩ := m_calR hf (fun _ h => ro_X6_at h)
      dsimp only at hf
      have p_r5 := pc_X6_at h_r5
      dsimp only at p_r5
      rw [hc, h4] at p_r5
      obtain ⟨-, hf⟩ := m_chkE hf
      rcases m_ifE hf with ⟨c2, hf⟩ | ⟨c2, hf⟩
      · skip
        replace c2 := ti_eqP (a := r5) (b := (34 : Int32)) c2 rfl (show (34 : Int32).toInt = 34 from rfl)
        obtain ⟨-, hf⟩ := m_chkE hf
        obtain ⟨v11, e_v11, hf⟩ := m_bndE hf
        have t_v11 : v11.toInt = (zI S 4 x0).toInt + 1 := ti_add e_v11 rfl (show (1 : Int32).toInt = 1 from rfl) (by omega) (by omega)
        obtain ⟨-, hf⟩ := m_chkE hf
        obtain ⟨S12, e_S12, hf⟩ := m_bndE hf
        obtain ⟨-, hf⟩ := m_chkE hf
        cases hf
        try dsimp only
        rw [vl_q (by omega)]
        exact ⟨gri_at (q := p + 1) h e_S12 (by omega) (by omega), Or.inl ⟨rfl, rfl⟩⟩
      · skip
        replace c2 := ti_eqN (a := r5) (b := (34 : Int32)) c2 rfl (show (34 : Int32).toInt = 34 from rfl)
        rcases m_ifE hf with ⟨c3, hf⟩ | ⟨c3, hf⟩
        · skip
          replace c3 := ti_eqP (a := r5) (b := (92 : Int32)) c3 rfl (show (92 : Int32).toInt = 92 from rfl)
          obtain ⟨-, hf⟩ := m_chkE hf
          obtain ⟨v6, e_v6, hf⟩ := m_bndE hf
          have t_v6 : v6.toInt = (zI S 4 x0).toInt + 1 := ti_add e_v6 rfl (show (1 : Int32).toInt = 1 from rfl) (by omega) (by omega)
          obtain ⟨-, hf⟩ := m_chkE hf
          obtain ⟨S7, e_S7, hf⟩ := m_bndE hf
          have G7 : GRi S0 S7 x0 tr nr vr ch N (p + 1) u w := gri_at h e_S7 (by omega) (by omega)
          obtain ⟨P72, -, -⟩ := gri_P G7
          obtain ⟨hc7, -⟩ := gri_t G7
          have h74 := G7.2.2.2.2.2.1
          obtain ⟨-, hf⟩ := m_chkE hf
          replace hf := m_calY hf P72
          obtain ⟨-, hf⟩ := m_chkE hf
          obtain ⟨-, hf⟩ := m_chkE hf
          obtain ⟨r9, h_r9, hf⟩ := m_calR hf (fun _ h => ro_X6_at h)
          dsimp only at hf
          have p_r9 := pc_X6_at h_r9
          dsimp only at p_r9
          rw [hc7, h74] at p_r9
          obtain ⟨-, hf⟩ := m_chkE hf
          rcases m_ifE hf with ⟨c4, hf⟩ | ⟨c4, hf⟩
          · skip
            replace c4 := ti_eqP (a := r9) (b := (34 : Int32)) c4 rfl (show (34 : Int32).toInt = 34 from rfl)
            exact cont S7 r9 (p + 1) G7 p_r9 (by omega) (by omega) (by omega) (by omega) (by omega) (by rw [vl_e (by omega) (Or.inl (by omega)), show p + 1 + 1 = p + 2 by omega]) hf
          · skip
            replace c4 := ti_eqN (a := r9) (b := (34 : Int32)) c4 rfl (show (34 : Int32).toInt = 34 from rfl)
            rcases m_ifE hf with ⟨c5, hf⟩ | ⟨c5, hf⟩
            · skip
              replace c5 := ti_eqP (a := r9) (b := (92 : Int32)) c5 rfl (show (92 : Int32).toInt = 92 from rfl)
              exact cont S7 r9 (p + 1) G7 p_r9 (by omega) (by omega) (by omega) (by omega) (by omega) (by rw [vl_e (by omega) (Or.inr (by omega)), show p + 1 + 1 = p + 2 by omega]) hf
            · skip
              replace c5 := ti_eqN (a := r9) (b := (92 : Int32)) c5 rfl (show (92 : Int32).toInt = 92 from rfl)
              obtain ⟨-, hf⟩ := m_chkE hf
              obtain ⟨-, hf⟩ := m_chkE hf
              obtain ⟨⟨r10, S10c⟩, h_r10, hf⟩ := m_calE hf
              dsimp only at hf
              have g10 := vl_no G7 h74 (by omega) h_r10
              rw [← vl_f (ch := ch) (p := p) (w := w) (N := N) (k := k2) (by omega) (by omega)] at g10
              obtain ⟨-, hf⟩ := m_chkE hf
              obtain ⟨-, hf⟩ := m_chkE hf
              cases hf
              try dsimp only
              exact g10
        · skip
          replace c3 := ti_eqN (a := r5) (b := (92 : Int32)) c3 rfl (show (92 : Int32).toInt = 92 from rfl)
          by_cases c10 : ch p = 10
          · unfold d_X2_readValue_142 at hf
            rcases m_ifE hf with ⟨c9, hf⟩ | ⟨c9, hf⟩
            · obtain ⟨-, hf⟩ := m_chkE hf
              obtain ⟨-, hf⟩ := m_chkE hf
              obtain ⟨⟨r9, S9⟩, h_r9, hf⟩ := m_calE hf
              dsimp only at hf
              obtain ⟨-, hf⟩ := m_chkE hf
              obtain ⟨-, hf⟩ := m_chkE hf
              have g9 := vl_no h h4 (by omega) h_r9
              rw [← vl_n (ch := ch) (p := p) (w := w) (N := N) (k := k2) (by omega) (by omega) (Or.inr c10)] at g9
              cases hf
              exact g9
            · replace c9 := ti_eqN (a := r5) (b := (10 : Int32)) c9 rfl (show (10 : Int32).toInt = 10 from rfl)
              omega
          · exact cont S r5 p h p_r5 c10 (by omega) (by omega) (by omega) (by omega) (vl_s (by omega) (by omega) (by omega)) hf
theorem p_readValue (h : GRi S0 S x0 tr nr vr ch N p u w) (hpN : p ≤ N) (hcb : ∀ i, 0 ≤ ch i ∧ ch i ≤ 127) (hf : d_X2_readValue x0 S = some o) : ∃ a, BL ch p a ∧ a ≤ N ∧ ((ch a ≠ 34 ∧ GRi S0 o.2 x0 tr nr vr ch N a u w ∧ o.1.toInt = 0 ∧ (zI o.2 5 x0).toInt = 10000 + a) ∨ (ch a = 34 ∧ VLo S0 x0 tr nr vr ch N u (vlP ch N 2001 (a + 1) []) o)) := by
  have hf : d_X2_readValue_0 x0 S = some o := hf
  unfold d_X2_readValue_0 at hf
  obtain ⟨-, hf⟩ := m_chkE hf
  obtain ⟨⟨r1, S1c⟩, h_r1, hf⟩ := m_calE hf
  dsimp only at hf
  obtain ⟨a, g1, G1, g1'⟩ := gri_bl h h_r1
  dsimp only at G1
  obtain ⟨P2, P6, P7⟩ := gri_P G1
  obtain ⟨hc, hN⟩ := gri_t G1
  have h4 := G1.2.2.2.2.2.1
  have hp := G1.2.2.2.2.2.2.1
  have hn := G1.2.2.2.2.1.2.2
  have aN : a ≤ N := by omega
  obtain ⟨-, hf⟩ := m_chkE hf
  obtain ⟨-, hf⟩ := m_chkE hf
  replace hf := m_calY hf P2
  obtain ⟨-, hf⟩ := m_chkE hf
  obtain ⟨-, hf⟩ := m_chkE hf
  obtain ⟨r3, h_r3, hf⟩ := m_calR hf (fun _ h => ro_X6_at h)
  dsimp only at hf
  have p_r3 := pc_X6_at h_r3
  dsimp only at p_r3
  rw [hc, h4] at p_r3
  obtain ⟨-, hf⟩ := m_chkE hf
  rcases m_ifE hf with ⟨c1, hf⟩ | ⟨c1, hf⟩
  · skip
    replace c1 := ti_eqP (a := r3) (b := (34 : Int32)) c1 rfl (show (34 : Int32).toInt = 34 from rfl)
    obtain ⟨-, hf⟩ := m_chkE hf
    replace hf := m_calY hf P7
    obtain ⟨-, hf⟩ := m_chkE hf
    obtain ⟨⟨r5, S5c⟩, h_r5, hf⟩ := m_calE hf
    dsimp only at hf
    have G5 := gri_kv G1 h_r5
    have h54 := G5.2.2.2.2.2.1
    obtain ⟨-, hf⟩ := m_chkE hf
    obtain ⟨-, hf⟩ := m_chkE hf
    obtain ⟨v6, e_v6, hf⟩ := m_bndE hf
    have t_v6 : v6.toInt = (zI S5c 4 x0).toInt + 1 := ti_add e_v6 rfl (show (1 : Int32).toInt = 1 from rfl) (by omega) (by omega)
    obtain ⟨-, hf⟩ := m_chkE hf
    obtain ⟨S7, e_S7, hf⟩ := m_bndE hf
    have G7 : GRi S0 S7 x0 tr nr vr ch N (a + 1) u [] := gri_at G5 e_S7 (by omega) (by omega)
    exact ⟨a, g1, aN, Or.inr ⟨by omega, rv_48 hcb mFuel S7 2001 (a + 1) [] G7 (by omega) (by decide) (by omega) (by show (0 : Int) ≤ a + 1; omega) hf⟩⟩
  · skip
    replace c1 := ti_eqN (a := r3) (b := (34 : Int32)) c1 rfl (show (34 : Int32).toInt = 34 from rfl)
    obtain ⟨-, hf⟩ := m_chkE hf
    obtain ⟨-, hf⟩ := m_chkE hf
    obtain ⟨⟨r8, S8c⟩, h_r8, hf⟩ := m_calE hf
    dsimp only at hf
    have g8 := vl_no G1 h4 (by omega) h_r8
    obtain ⟨-, hf⟩ := m_chkE hf
    obtain ⟨-, hf⟩ := m_chkE hf
    cases hf
    try dsimp only
    obtain ⟨e1, e2⟩ := g8
    rcases e2 with ⟨e2, -⟩ | ⟨-, e2, e3⟩
    · cases e2
    · exact ⟨a, g1, aN, Or.inl ⟨by omega, e1, e2, e3⟩⟩
end GRV
end
section
/-- while the reference reads a tag of game g, number k: the place, the name u and the value w so far -/
noncomputable def TGi (I0 : Nat → Int32) (A0 : Nat → Nat → Int32) (I : Nat → Int32) (A : Nat → Nat → Int32) (ch : Int → Int) (N p g k : Int) (u w : List Int) : Prop := (TJ I ∧ TK A) ∧ (txR I A = ch ∧ (I 1).toInt = N) ∧ ((I 37).toInt = p ∧ 0 ≤ p ∧ p ≤ 2010) ∧ (∀ j, j ≠ 37 → I j = I0 j) ∧ (∀ j, j ≠ 20 → j ≠ 22 → A j = A0 j) ∧ (∀ i : Nat, (k = 8 ∨ (i : Int) < 96 * g + 12 * k ∨ 96 * g + 12 * k + 12 ≤ (i : Int)) → A 20 i = A0 20 i) ∧ (∀ i : Nat, (k = 8 ∨ (i : Int) < 768 * g + 96 * k ∨ 768 * g + 96 * k + 96 ≤ (i : Int)) → A 22 i = A0 22 i) ∧ (k ≠ 8 → (∀ i : Int, 0 ≤ i → i < (u.length : Int) → i < 12 → (A 20 (96 * g + 12 * k + i).toNat).toInt = wA u i) ∧ ∀ i : Int, 0 ≤ i → i < (w.length : Int) → i < 96 → (A 22 (768 * g + 96 * k + i).toNat).toInt = wA w i) ∧ ((g = 0 ∨ g = 1) ∧ 0 ≤ k ∧ k ≤ 8) ∧ (∀ i, 0 ≤ ch i ∧ ch i ≤ 127)
section TGS
variable {I0 I I' : Nat → Int32} {A0 A A' : Nat → Nat → Int32} {ch : Int → Int} {N p q g k a : Int} {u w : List Int} {o : Int32 × MS} {x1 x2 x3 x4 x5 : Int32}
theorem tgi_at {v : Int32} (h : TGi I0 A0 I A ch N p g k u w) (e : I' = upd I 37 v) (hv : v.toInt = q) (hq : 0 ≤ q ∧ q ≤ 2010) : TGi I0 A0 I' A ch N q g k u w := by
  obtain ⟨⟨hI, hA⟩, ⟨hc, hN⟩, -, hi, r⟩ := h
  subst e
  refine ⟨⟨tj_u hI (show (0 : Int) ≤ v.toInt by omega) (show v.toInt ≤ (2100 : Int) by omega), hA⟩, ⟨?_, by rw [upd_ne (by decide)]; exact hN⟩, ⟨by rw [upd_self]; exact hv, hq⟩, fun j hj => by rw [upd_ne hj]; exact hi j hj, r⟩
  rw [← hc]
  funext i
  unfold txR
  rw [upd_ne (by decide)]
theorem tgi_lk (h : TGi I0 A0 I A ch N p g k u w) (hf : f_look I A = some o) : o.1.toInt = ch p := by
  obtain ⟨-, ⟨hc, -⟩, ⟨h37, hp⟩, -⟩ := h
  have g1 := pc_look hf (by omega)
  rw [hc, h37] at g1
  exact g1
theorem tgi_bl (h : TGi I0 A0 I A ch N p g k u w) (hN : N ≤ 2000) (hf : f_blanks I A = some o) : ∃ b, BL ch p b ∧ TGi I0 A0 o.2.1 o.2.2 ch N b g k u w ∧ (b ≤ p ∨ b ≤ N) := by
  obtain ⟨-, ⟨hc, hn⟩, ⟨h37, hp⟩, -⟩ := id h
  obtain ⟨v, g1, g2, g3⟩ := p_blanks hc (by omega) (by omega) hf
  rw [h37] at g1 g3
  rw [hn] at g3
  have := g1.1
  rw [g2]
  exact ⟨v.toInt, g1, tgi_at h rfl rfl (by omega), g3⟩
theorem wA_lt {u : List Int} {c i : Int} (h : i < (u.length : Int)) : wA (u ++ [c]) i = wA u i := by rw [wA_app, if_neg (by omega)]
theorem app_len {u : List Int} {c : Int} : ((u ++ [c]).length : Int) = (u.length : Int) + 1 := by
  rw [List.length_append]
  rfl
/-- a sign more that is not kept -/
theorem tgi_n0 {c : Int} (h : TGi I0 A0 I A ch N p g k u w) (hl : k = 8 ∨ 12 ≤ (u.length : Int)) : TGi I0 A0 I A ch N p g k (u ++ [c]) w := by
  obtain ⟨h1, h2, h3, h4, h5, h6, h7, h8, h9⟩ := h
  refine ⟨h1, h2, h3, h4, h5, h6, h7, fun hk => ⟨fun i i0 i1 i2 => ?_, (h8 hk).2⟩, h9⟩
  rw [wA_lt (by omega)]
  exact (h8 hk).1 i i0 (by omega) i2
theorem tgi_v0 {c : Int} (h : TGi I0 A0 I A ch N p g k u w) (hl : k = 8 ∨ 96 ≤ (w.length : Int)) : TGi I0 A0 I A ch N p g k u (w ++ [c]) := by
  obtain ⟨h1, h2, h3, h4, h5, h6, h7, h8, h9⟩ := h
  refine ⟨h1, h2, h3, h4, h5, h6, h7, fun hk => ⟨(h8 hk).1, fun i i0 i1 i2 => ?_⟩, h9⟩
  rw [wA_lt (by omega)]
  exact (h8 hk).2 i i0 (by omega) i2
theorem tgi_n1 {c x v : Int32} (h : TGi I0 A0 I A ch N p g k u w) (hl : (u.length : Int) < 12) (hk : k ≠ 8) (hc : 0 ≤ c.toInt ∧ c.toInt ≤ 127) (hv : v.toInt = c.toInt) (hx : x.toInt = 96 * g + 12 * k + (u.length : Int)) (e : A' = va_up A 20 (upd (A 20) (x).toNatClampNeg v)) : TGi I0 A0 I A' ch N p g k (u ++ [c.toInt]) w := by
  obtain ⟨⟨hI, hA⟩, ⟨h2, hN⟩, h3, h4, h5, h6, h7, h8, h9⟩ := h
  have xn : x.toNatClampNeg = (96 * g + 12 * k + (u.length : Int)).toNat := by rw [← hx]; rfl
  have at20 : A' 20 = upd (A 20) (x).toNatClampNeg v := by rw [e]; exact va_up_self _ _ _
  have oth : ∀ j, j ≠ 20 → A' j = A j := fun j hj => by rw [e]; exact va_up_ne _ _ hj
  refine ⟨⟨hI, by rw [e]; exact tk_u hA (show (0 : Int) ≤ v.toInt by omega) (show v.toInt ≤ (65535 : Int) by omega)⟩, ⟨(tx_fr rfl (oth 2 (by decide))).trans h2, hN⟩, h3, h4, fun j j1 j2 => (oth j j1).trans (h5 j j1 j2), fun i hi => ?_, fun i hi => by rw [oth 22 (by decide)]; exact h7 i hi, fun hk => ⟨fun i i0 i1 i2 => ?_, fun i i0 i1 i2 => by rw [oth 22 (by decide)]; exact (h8 hk).2 i i0 i1 i2⟩, h9⟩
  · rw [at20, upd_ne (by rw [xn]; omega)]
    exact h6 i hi
  · rw [app_len] at i1
    rw [at20, wA_app]
    by_cases ei : i = (u.length : Int)
    · rw [if_pos ei, ei, ← xn, upd_self]; exact hv
    · rw [if_neg ei, upd_ne (by rw [xn]; omega)]
      exact (h8 hk).1 i i0 (by omega) i2
theorem tgi_v1 {c x v : Int32} (h : TGi I0 A0 I A ch N p g k u w) (hl : (w.length : Int) < 96) (hk : k ≠ 8) (hc : 0 ≤ c.toInt ∧ c.toInt ≤ 127) (hv : v.toInt = c.toInt) (hx : x.toInt = 768 * g + 96 * k + (w.length : Int)) (e : A' = va_up A 22 (upd (A 22) (x).toNatClampNeg v)) : TGi I0 A0 I A' ch N p g k u (w ++ [c.toInt]) := by
  obtain ⟨⟨hI, hA⟩, ⟨h2, hN⟩, h3, h4, h5, h6, h7, h8, h9⟩ := h
  have xn : x.toNatClampNeg = (768 * g + 96 * k + (w.length : Int)).toNat := by rw [← hx]; rfl
  have at22 : A' 22 = upd (A 22) (x).toNatClampNeg v := by rw [e]; exact va_up_self _ _ _
  have oth : ∀ j, j ≠ 22 → A' j = A j := fun j hj => by rw [e]; exact va_up_ne _ _ hj
  refine ⟨⟨hI, by rw [e]; exact tk_u hA (show (0 : Int) ≤ v.toInt by omega) (show v.toInt ≤ (65535 : Int) by omega)⟩, ⟨(tx_fr rfl (oth 2 (by decide))).trans h2, hN⟩, h3, h4, fun j j1 j2 => (oth j j2).trans (h5 j j1 j2), fun i hi => by rw [oth 20 (by decide)]; exact h6 i hi, fun i hi => ?_, fun hk => ⟨fun i i0 i1 i2 => by rw [oth 20 (by decide)]; exact (h8 hk).1 i i0 i1 i2, fun i i0 i1 i2 => ?_⟩, h9⟩
  · rw [at22, upd_ne (by rw [xn]; omega)]
    exact h7 i hi
  · rw [app_len] at i1
    rw [at22, wA_app]
    by_cases ei : i = (w.length : Int)
    · rw [if_pos ei, ei, ← xn, upd_self]; exact hv
    · rw [if_neg ei, upd_ne (by rw [xn]; omega)]
      exact (h8 hk).2 i i0 (by omega) i2
theorem v_fault (h1 : 0 ≤ x1.toInt ∧ x1.toInt ≤ 10) (h2 : 0 ≤ x2.toInt ∧ x2.toInt ≤ 100000) (hf : f_fault x1 x2 I A = some o) : o.1.toInt = 10000 * x1.toInt + x2.toInt := by
  have hf : f_fault_0 x1 x2 I A = some o := hf
  unfold f_fault_0 at hf
  obtain ⟨v1, e_v1, hf⟩ := m_bndE hf
  have t_v1 : v1.toInt = 10000 * x1.toInt := ti_mul e_v1 (show (10000 : Int32).toInt = 10000 from rfl) rfl (by omega) (by omega)
  obtain ⟨v2, e_v2, hf⟩ := m_bndE hf
  have t_v2 : v2.toInt = v1.toInt + x2.toInt := ti_add e_v2 rfl rfl (by omega) (by omega)
  cases hf
  try dsimp only
  omega
/-- the name's loop -/
theorem rt_71 (hN : N ≤ 2000) (h0 : 0 ≤ a) (h1 : x1.toInt = g) (h3 : x3.toInt = k) (h4 : x4.toInt = 0 ∨ x4.toInt = 1) (h48 : x4.toInt = 1 ↔ k = 8) : ∀ (n : Nat) (x5 : Int32) (I : Nat → Int32) (A : Nat → Nat → Int32) (c : Nat), x5.toInt = (c : Int) → TGi I0 A0 I A ch N (a + (c : Int)) g k (wr ch a c) w → (∀ j, a ≤ j → j < a + (c : Int) → nmC (ch j)) → a + (c : Int) ≤ 2003 → f_readTag_71 n x1 x2 x3 x4 x5 I A = some o → ∃ b q I1 A1, ∃ y : Int32, NM ch a b ∧ BL ch b q ∧ TGi I0 A0 I1 A1 ch N q g k (wr ch a (b - a).toNat) w ∧ y.toInt = b - a ∧ ((ch q ≠ 34 ∧ o.1.toInt = 10000 + q) ∨ (ch q = 34 ∧ ∃ I8, TGi I0 A0 I8 A1 ch N (q + 1) g k (wr ch a (b - a).toNat) w ∧ f_readTag_175 mFuel x1 x2 x3 x4 y 0 I8 A1 = some o)) := by
  intro n
  induction n with
  | zero => intro x5 I A c _ _ _ _ hf; cases hf
  | succ n ih =>
    intro x5 I A c hx5 h hd hac hf
    have hf : f_readTag_71s (f_readTag_71 n) x1 x2 x3 x4 x5 I A = some o := hf
    obtain ⟨hIA, ⟨hc, hn⟩, ⟨h37, hp⟩, -, -, -, -, -, ⟨hg, hk0, hk8⟩, hcb⟩ := id h
    have b0 := hcb (a + (c : Int))
    have cl := wr_len (ch := ch) (a := a) c
    have z0 : (0 : Int32).toInt = 0 := rfl
    have z1 : (1 : Int32).toInt = 1 := rfl
    have ins : nmC (ch (a + (c : Int))) → a + (c : Int) < N := fun hs => by
      by_cases e : a + (c : Int) < N
      · exact e
      · have : ch (a + (c : Int)) = 0 := by rw [← hc]; exact tx_out (by omega)
        rw [this] at hs
        unfold nmC isL isD at hs
        omega
    have go : ∀ A1, nmC (ch (a + (c : Int))) → TGi I0 A0 I A1 ch N (a + (c : Int)) g k (wr ch a (c + 1)) w → f_readTag_124 (f_readTag_71 n) x1 x2 x3 x4 x5 I A1 = some o → ∃ b q I1 A1, ∃ y : Int32, NM ch a b ∧ BL ch b q ∧ TGi I0 A0 I1 A1 ch N q g k (wr ch a (b - a).toNat) w ∧ y.toInt = b - a ∧ ((ch q ≠ 34 ∧ o.1.toInt = 10000 + q) ∨ (ch q = 34 ∧ ∃ I8, TGi I0 A0 I8 A1 ch N (q + 1) g k (wr ch a (b - a).toNat) w ∧ f_readTag_175 mFuel x1 x2 x3 x4 y 0 I8 A1 = some o)) := by
      intro A1 hs G1 hf
      have hin := ins hs
      unfold f_readTag_124 at hf
      obtain ⟨v1, e1, hf⟩ := m_bndE hf
      obtain ⟨v2, e2, hf⟩ := m_bndE hf
      obtain ⟨I3, e3, hf⟩ := m_bndE hf
      have t1 : v1.toInt = x5.toInt + 1 := ti_add e1 rfl (show (1 : Int32).toInt = 1 from rfl) (by omega) (by omega)
      have t2 : v2.toInt = (I 37).toInt + 1 := ti_add e2 rfl (show (1 : Int32).toInt = 1 from rfl) (by omega) (by omega)
      have G3 : TGi I0 A0 I3 A1 ch N (a + ((c + 1 : Nat) : Int)) g k (wr ch a (c + 1)) w := tgi_at G1 e3 (by omega) (by omega)
      refine ih v1 I3 A1 (c + 1) (by omega) G3 (fun j j0 j1 => ?_) (by omega) hf
      by_cases e : j = a + (c : Int)
      · rw [e]; exact hs
      · exact hd j j0 (by omega)
    have more : nmC (ch (a + (c : Int))) → f_readTag_91 (f_readTag_71 n) x1 x2 x3 x4 x5 I A = some o → ∃ b q I1 A1, ∃ y : Int32, NM ch a b ∧ BL ch b q ∧ TGi I0 A0 I1 A1 ch N q g k (wr ch a (b - a).toNat) w ∧ y.toInt = b - a ∧ ((ch q ≠ 34 ∧ o.1.toInt = 10000 + q) ∨ (ch q = 34 ∧ ∃ I8, TGi I0 A0 I8 A1 ch N (q + 1) g k (wr ch a (b - a).toNat) w ∧ f_readTag_175 mFuel x1 x2 x3 x4 y 0 I8 A1 = some o)) := by
      intro hs hf
      have hin := ins hs
      unfold f_readTag_91 at hf
      rcases m_ifE hf with ⟨c1, hf⟩ | ⟨c1, hf⟩
      · skip
        replace c1 := ti_leP (a := (12 : Int32)) (b := x5) c1 (show (12 : Int32).toInt = 12 from rfl) rfl
        exact go A hs (tgi_n0 h (Or.inr (by omega))) hf
      · skip
        replace c1 := ti_leN (a := (12 : Int32)) (b := x5) c1 (show (12 : Int32).toInt = 12 from rfl) rfl
        rcases m_ifE hf with ⟨c2, hf⟩ | ⟨c2, hf⟩
        · skip
          replace c2 := ti_eqP (a := x4) (b := (0 : Int32)) c2 rfl (show (0 : Int32).toInt = 0 from rfl)
          obtain ⟨v1, e_v1, hf⟩ := m_bndE hf
          have t_v1 : v1.toInt = 96 * x1.toInt := ti_mul e_v1 (show (96 : Int32).toInt = 96 from rfl) rfl (by omega) (by omega)
          obtain ⟨v2, e_v2, hf⟩ := m_bndE hf
          have t_v2 : v2.toInt = 12 * x3.toInt := ti_mul e_v2 (show (12 : Int32).toInt = 12 from rfl) rfl (by omega) (by omega)
          obtain ⟨v3, e_v3, hf⟩ := m_bndE hf
          have t_v3 : v3.toInt = v1.toInt + v2.toInt := ti_add e_v3 rfl rfl (by omega) (by omega)
          obtain ⟨v4, e_v4, hf⟩ := m_bndE hf
          have t_v4 : v4.toInt = v3.toInt + x5.toInt := ti_add e_v4 rfl rfl (by omega) (by omega)
          obtain ⟨r5, h_r5, hf⟩ := m_clR hf (fun _ h => rro_look h)
          have p_r5 := pc_look h_r5
          dsimp only at p_r5
          have q5 := tgi_lk h h_r5
          dsimp only at q5
          clear p_r5
          obtain ⟨-, hf⟩ := m_chkE hf
          obtain ⟨A6, e_A6, hf⟩ := m_bndE hf
          have n5 : (vp_nar .char r5).toInt = r5.toInt := nar_ci rfl (by omega) (by omega)
          have G6 := tgi_n1 (c := r5) h (by omega) (by omega) (by omega) n5 (by omega) e_A6
          rw [q5] at G6
          exact go A6 hs G6 hf
        · skip
          replace c2 := ti_eqN (a := x4) (b := (0 : Int32)) c2 rfl (show (0 : Int32).toInt = 0 from rfl)
          exact go A hs (tgi_n0 h (Or.inl (by omega))) hf
    unfold f_readTag_71s at hf
    obtain ⟨r1, h_r1, hf⟩ := m_clR hf (fun _ h => rro_look h)
    have p_r1 := pc_look h_r1
    dsimp only at p_r1
    have q1 := tgi_lk h h_r1
    dsimp only at q1
    clear p_r1
    obtain ⟨r2, h_r2, hf⟩ := m_clR hf (fun _ h => rro_isLetter h)
    have p_r2 := pc_isLetter h_r2
    dsimp only at p_r2
    rw [q1] at p_r2
    rcases m_ifE hf with ⟨c1, hf⟩ | ⟨c1, hf⟩
    · skip
      replace c1 := ti_eqP (a := r2) (b := (0 : Int32)) c1 rfl (show (0 : Int32).toInt = 0 from rfl)
      obtain ⟨r3, h_r3, hf⟩ := m_clR hf (fun _ h => rro_look h)
      have p_r3 := pc_look h_r3
      dsimp only at p_r3
      have q3 := tgi_lk h h_r3
      dsimp only at q3
      clear p_r3
      obtain ⟨r4, h_r4, hf⟩ := m_clR hf (fun _ h => rro_isDigit h)
      have p_r4 := pc_isDigit h_r4
      dsimp only at p_r4
      rw [q3] at p_r4
      rcases m_ifE hf with ⟨c2, hf⟩ | ⟨c2, hf⟩
      · skip
        replace c2 := ti_eqP (a := r4) (b := (0 : Int32)) c2 rfl (show (0 : Int32).toInt = 0 from rfl)
        obtain ⟨⟨r5, Ic5, Ac5⟩, h_r5, hf⟩ := m_clE hf
        dsimp only at hf
        obtain ⟨q, g1, G5, g5⟩ := tgi_bl h hN h_r5
        dsimp only at G5
        have nn : ¬ nmC (ch (a + (c : Int))) := fun gg => by
          rcases gg with gg | gg
          · have := p_r2.2.2 gg; omega
          · have := p_r4.2.2 gg; omega
        have ec : (a + (c : Int) - a).toNat = c := by omega
        have h537 := G5.2.2.1
        obtain ⟨r6, h_r6, hf⟩ := m_clR hf (fun _ h => rro_look h)
        have p_r6 := pc_look h_r6
        dsimp only at p_r6
        have q6 := tgi_lk G5 h_r6
        dsimp only at q6
        clear p_r6
        rcases m_ifE hf with ⟨c3, hf⟩ | ⟨c3, hf⟩
        · skip
          replace c3 := ti_eqP (a := r6) (b := (34 : Int32)) c3 rfl (show (34 : Int32).toInt = 34 from rfl)
          obtain ⟨v7, e_v7, hf⟩ := m_bndE hf
          have t_v7 : v7.toInt = (Ic5 37).toInt + 1 := ti_add e_v7 rfl (show (1 : Int32).toInt = 1 from rfl) (by omega) (by omega)
          obtain ⟨I8, e_I8, hf⟩ := m_bndE hf
          have G8 : TGi I0 A0 I8 Ac5 ch N (q + 1) g k (wr ch a c) w := tgi_at G5 e_I8 (by omega) (by omega)
          exact ⟨a + (c : Int), q, Ic5, Ac5, x5, ⟨by omega, hd, nn⟩, g1, by rw [ec]; exact G5, by omega, Or.inr ⟨by omega, I8, by rw [ec]; exact G8, hf⟩⟩
        · skip
          replace c3 := ti_eqN (a := r6) (b := (34 : Int32)) c3 rfl (show (34 : Int32).toInt = 34 from rfl)
          obtain ⟨r9, h_r9, hf⟩ := m_clR hf (fun _ h => rro_fault h)
          have q9 := v_fault (x1 := 1) (x2 := Ic5 37) (by decide) (by omega) h_r9
          dsimp only at q9
          cases hf
          try dsimp only
          exact ⟨a + (c : Int), q, Ic5, Ac5, x5, ⟨by omega, hd, nn⟩, g1, by rw [ec]; exact G5, by omega, Or.inl ⟨by omega, by omega⟩⟩
      · skip
        replace c2 := ti_eqN (a := r4) (b := (0 : Int32)) c2 rfl (show (0 : Int32).toInt = 0 from rfl)
        exact more (Or.inr (p_r4.2.1 (by omega))) hf
    · skip
      replace c1 := ti_eqN (a := r2) (b := (0 : Int32)) c1 rfl (show (0 : Int32).toInt = 0 from rfl)
      exact more (Or.inl (p_r2.2.1 (by omega))) hf
/-- the value's loop -/
theorem rt_175 (hN : N ≤ 2000) (h1 : x1.toInt = g) (h3 : x3.toInt = k) (h4 : x4.toInt = 0 ∨ x4.toInt = 1) (h48 : x4.toInt = 1 ↔ k = 8) : ∀ (n : Nat) (x6 : Int32) (I : Nat → Int32) (A : Nat → Nat → Int32) (c : Nat) (p : Int) (w : List Int), x6.toInt = (w.length : Int) → TGi I0 A0 I A ch N p g k u w → N < p + (c : Int) → 1 ≤ c → p ≤ N → (w.length : Int) ≤ p → f_readTag_175 n x1 x2 x3 x4 x5 x6 I A = some o → ((vlP ch N c p w).1 = false ∧ o.1.toInt = 10000 + (vlP ch N c p w).2.1) ∨ ((vlP ch N c p w).1 = true ∧ ∃ q I1 A1 n1, ∃ y : Int32, q + 1 = (vlP ch N c p w).2.1 ∧ q < N ∧ ch q = 34 ∧ y.toInt = ((vlP ch N c p w).2.2.length : Int) ∧ TGi I0 A0 I1 A1 ch N q g k u (vlP ch N c p w).2.2 ∧ f_readTag_175s (f_readTag_175 n1) x1 x2 x3 x4 x5 y I1 A1 = some o) := by
  intro n
  induction n with
  | zero => intro x6 I A c p w _ _ _ _ _ _ hf; cases hf
  | succ n ih =>
    intro x6 I A c p w h6 h hk hk1 hpN hwl hf
    have hf : f_readTag_175s (f_readTag_175 n) x1 x2 x3 x4 x5 x6 I A = some o := hf
    obtain ⟨c2, rfl⟩ : ∃ c2, c = c2 + 1 := ⟨c - 1, by omega⟩
    obtain ⟨hIA, ⟨hc, hn⟩, ⟨h37, hp⟩, -, -, -, -, -, ⟨hg, hk0, hk8⟩, hcb⟩ := id h
    have b0 := hcb p
    have b1 := hcb (p + 1)
    have z0 : (0 : Int32).toInt = 0 := rfl
    have z1 : (1 : Int32).toInt = 1 := rfl
    have out : ∀ i, ch i ≠ 0 → 0 ≤ i → i < N := fun i hi i0 => by
      by_cases e : i < N
      · exact e
      · exact absurd (by rw [← hc]; exact tx_out (by omega)) hi
    have nil0 : N ≤ p → ch p = 0 := fun e => by rw [← hc]; exact tx_out (by omega)
    have cont : ∀ I1 p', TGi I0 A0 I1 A ch N p' g k u w → (p ≤ p' ∧ p' ≤ p + 1) → ch p' ≠ 10 → p' < N → vlP ch N (c2 + 1) p w = vlP ch N c2 (p' + 1) (w ++ [ch p']) → f_readTag_230 (f_readTag_175 n) x1 x2 x3 x4 x5 x6 I1 A = some o → ((vlP ch N (c2 + 1) p w).1 = false ∧ o.1.toInt = 10000 + (vlP ch N (c2 + 1) p w).2.1) ∨ ((vlP ch N (c2 + 1) p w).1 = true ∧ ∃ q I1 A1 n1, ∃ y : Int32, q + 1 = (vlP ch N (c2 + 1) p w).2.1 ∧ q < N ∧ ch q = 34 ∧ y.toInt = ((vlP ch N (c2 + 1) p w).2.2.length : Int) ∧ TGi I0 A0 I1 A1 ch N q g k u (vlP ch N (c2 + 1) p w).2.2 ∧ f_readTag_175s (f_readTag_175 n1) x1 x2 x3 x4 x5 y I1 A1 = some o) := by
      intro I1 p' G hpp n10 hlt er hf
      obtain ⟨-, ⟨-, hn1⟩, ⟨h137, hp1⟩, -⟩ := id G
      have b2 := hcb p'
      rw [er]
      have go : ∀ A1, TGi I0 A0 I1 A1 ch N p' g k u (w ++ [ch p']) → f_readTag_293 (f_readTag_175 n) x1 x2 x3 x4 x5 x6 I1 A1 = some o → ((vlP ch N c2 (p' + 1) (w ++ [ch p'])).1 = false ∧ o.1.toInt = 10000 + (vlP ch N c2 (p' + 1) (w ++ [ch p'])).2.1) ∨ ((vlP ch N c2 (p' + 1) (w ++ [ch p'])).1 = true ∧ ∃ q I1 A1 n1, ∃ y : Int32, q + 1 = (vlP ch N c2 (p' + 1) (w ++ [ch p'])).2.1 ∧ q < N ∧ ch q = 34 ∧ y.toInt = ((vlP ch N c2 (p' + 1) (w ++ [ch p'])).2.2.length : Int) ∧ TGi I0 A0 I1 A1 ch N q g k u (vlP ch N c2 (p' + 1) (w ++ [ch p'])).2.2 ∧ f_readTag_175s (f_readTag_175 n1) x1 x2 x3 x4 x5 y I1 A1 = some o) := by
        intro A1 G1 hf
        unfold f_readTag_293 at hf
        obtain ⟨v1, e1, hf⟩ := m_bndE hf
        obtain ⟨v2, e2, hf⟩ := m_bndE hf
        obtain ⟨I3, e3, hf⟩ := m_bndE hf
        have t1 : v1.toInt = x6.toInt + 1 := ti_add e1 rfl (show (1 : Int32).toInt = 1 from rfl) (by omega) (by omega)
        have t2 : v2.toInt = (I1 37).toInt + 1 := ti_add e2 rfl (show (1 : Int32).toInt = 1 from rfl) (by omega) (by omega)
        have G3 : TGi I0 A0 I3 A1 ch N (p' + 1) g k u (w ++ [ch p']) := tgi_at G1 e3 (by omega) (by omega)
        have al := app_len (u := w) (c := ch p')
        exact ih v1 I3 A1 c2 (p' + 1) (w ++ [ch p']) (by omega) G3 (by omega) (by omega) (by omega) (by omega) hf
      unfold f_readTag_230 at hf
      rcases m_ifE hf with ⟨c1, hf⟩ | ⟨c1, hf⟩
      · skip
        replace c1 := ti_eqP (a := (I1 37)) (b := (I1 1)) c1 rfl rfl
        omega
      · skip
        replace c1 := ti_eqN (a := (I1 37)) (b := (I1 1)) c1 rfl rfl
        obtain ⟨r1, h_r1, hf⟩ := m_clR hf (fun _ h => rro_look h)
        have p_r1 := pc_look h_r1
        dsimp only at p_r1
        have q1 := tgi_lk G h_r1
        dsimp only at q1
        clear p_r1
        rcases m_ifE hf with ⟨c2, hf⟩ | ⟨c2, hf⟩
        · skip
          replace c2 := ti_eqP (a := r1) (b := (10 : Int32)) c2 rfl (show (10 : Int32).toInt = 10 from rfl)
          omega
        · skip
          replace c2 := ti_eqN (a := r1) (b := (10 : Int32)) c2 rfl (show (10 : Int32).toInt = 10 from rfl)
          rcases m_ifE hf with ⟨c3, hf⟩ | ⟨c3, hf⟩
          · skip
            replace c3 := ti_leP (a := (96 : Int32)) (b := x6) c3 (show (96 : Int32).toInt = 96 from rfl) rfl
            exact go A (tgi_v0 G (Or.inr (by omega))) hf
          · skip
            replace c3 := ti_leN (a := (96 : Int32)) (b := x6) c3 (show (96 : Int32).toInt = 96 from rfl) rfl
            rcases m_ifE hf with ⟨c4, hf⟩ | ⟨c4, hf⟩
            · skip
              replace c4 := ti_eqP (a := x4) (b := (0 : Int32)) c4 rfl (show (0 : Int32).toInt = 0 from rfl)
              obtain ⟨v2, e_v2, hf⟩ := m_bndE hf
              have t_v2 : v2.toInt = 768 * x1.toInt := ti_mul e_v2 (show (768 : Int32).toInt = 768 from rfl) rfl (by omega) (by omega)
              obtain ⟨v3, e_v3, hf⟩ := m_bndE hf
              have t_v3 : v3.toInt = 96 * x3.toInt := ti_mul e_v3 (show (96 : Int32).toInt = 96 from rfl) rfl (by omega) (by omega)
              obtain ⟨v4, e_v4, hf⟩ := m_bndE hf
              have t_v4 : v4.toInt = v2.toInt + v3.toInt := ti_add e_v4 rfl rfl (by omega) (by omega)
              obtain ⟨v5, e_v5, hf⟩ := m_bndE hf
              have t_v5 : v5.toInt = v4.toInt + x6.toInt := ti_add e_v5 rfl rfl (by omega) (by omega)
              obtain ⟨r6, h_r6, hf⟩ := m_clR hf (fun _ h => rro_look h)
              have p_r6 := pc_look h_r6
              dsimp only at p_r6
              have q6 := tgi_lk G h_r6
              dsimp only at q6
              clear p_r6
              obtain ⟨-, hf⟩ := m_chkE hf
              obtain ⟨A7, e_A7, hf⟩ := m_bndE hf
              have n6 : (vp_nar .char r6).toInt = r6.toInt := nar_ci rfl (by omega) (by omega)
              have G7 := tgi_v1 (c := r6) G (by omega) (by omega) (by omega) n6 (by omega) e_A7
              rw [q6] at G7
              exact go A7 G7 hf
            · skip
              replace c4 := ti_eqN (a := x4) (b := (0 : Int32)) c4 rfl (show (0 : Int32).toInt = 0 from rfl)
              exact go A (tgi_v0 G (Or.inl (by omega))) hf
    have hf' := hf
    unfold f_readTag_175s at hf
    obtain ⟨r1, h_r1, hf⟩ := m_clR hf (fun _ h => rro_look h)
    have p_r1 := pc_look h_r1
    dsimp only at p_r1
    have q1 := tgi_lk h h_r1
    dsimp only at q1
    clear p_r1
    rcases m_ifE hf with ⟨c1, hf⟩ | ⟨c1, hf⟩
    · skip
      replace c1 := ti_eqP (a := r1) (b := (34 : Int32)) c1 rfl (show (34 : Int32).toInt = 34 from rfl)
      have e34 : ch p = 34 := by omega
      rw [vl_q e34]
      exact Or.inr ⟨rfl, p, I, A, n, x6, rfl, out p (by omega) (by omega), e34, h6, h, hf'⟩
    · skip
      replace c1 := ti_eqN (a := r1) (b := (34 : Int32)) c1 rfl (show (34 : Int32).toInt = 34 from rfl)
      obtain ⟨r24, h_r24, hf⟩ := m_clR hf (fun _ h => rro_look h)
      have p_r24 := pc_look h_r24
      dsimp only at p_r24
      have q24 := tgi_lk h h_r24
      dsimp only at q24
      clear p_r24
      rcases m_ifE hf with ⟨c2, hf⟩ | ⟨c2, hf⟩
      · skip
        replace c2 := ti_eqP (a := r24) (b := (92 : Int32)) c2 rfl (show (92 : Int32).toInt = 92 from rfl)
        obtain ⟨v25, e_v25, hf⟩ := m_bndE hf
        have t_v25 : v25.toInt = (I 37).toInt + 1 := ti_add e_v25 rfl (show (1 : Int32).toInt = 1 from rfl) (by omega) (by omega)
        obtain ⟨I26, e_I26, hf⟩ := m_bndE hf
        have pin := out p (by omega) (by omega)
        have G26 : TGi I0 A0 I26 A ch N (p + 1) g k u w := tgi_at h e_I26 (by omega) (by omega)
        have h2637 := G26.2.2.1
        obtain ⟨r27, h_r27, hf⟩ := m_clR hf (fun _ h => rro_look h)
        have p_r27 := pc_look h_r27
        dsimp only at p_r27
        have q27 := tgi_lk G26 h_r27
        dsimp only at q27
        clear p_r27
        rcases m_ifE hf with ⟨c3, hf⟩ | ⟨c3, hf⟩
        · skip
          replace c3 := ti_eqP (a := r27) (b := (34 : Int32)) c3 rfl (show (34 : Int32).toInt = 34 from rfl)
          exact cont I26 (p + 1) G26 (by omega) (by omega) (out (p + 1) (by omega) (by omega)) (by rw [vl_e (by omega) (Or.inl (by omega)), show p + 1 + 1 = p + 2 by omega]) hf
        · skip
          replace c3 := ti_eqN (a := r27) (b := (34 : Int32)) c3 rfl (show (34 : Int32).toInt = 34 from rfl)
          obtain ⟨r28, h_r28, hf⟩ := m_clR hf (fun _ h => rro_look h)
          have p_r28 := pc_look h_r28
          dsimp only at p_r28
          have q28 := tgi_lk G26 h_r28
          dsimp only at q28
          clear p_r28
          rcases m_ifE hf with ⟨c4, hf⟩ | ⟨c4, hf⟩
          · skip
            replace c4 := ti_eqP (a := r28) (b := (92 : Int32)) c4 rfl (show (92 : Int32).toInt = 92 from rfl)
            exact cont I26 (p + 1) G26 (by omega) (by omega) (out (p + 1) (by omega) (by omega)) (by rw [vl_e (by omega) (Or.inr (by omega)), show p + 1 + 1 = p + 2 by omega]) hf
          · skip
            replace c4 := ti_eqN (a := r28) (b := (92 : Int32)) c4 rfl (show (92 : Int32).toInt = 92 from rfl)
            obtain ⟨r29, h_r29, hf⟩ := m_clR hf (fun _ h => rro_fault h)
            have q29 := v_fault (x1 := 1) (x2 := I26 37) (by decide) (by omega) h_r29
            dsimp only at q29
            cases hf
            try dsimp only
            rw [vl_f (by omega) (by omega)]
            exact Or.inl ⟨rfl, by show r29.toInt = 10000 + (p + 1); omega⟩
      · skip
        replace c2 := ti_eqN (a := r24) (b := (92 : Int32)) c2 rfl (show (92 : Int32).toInt = 92 from rfl)
        by_cases cx : N ≤ p ∨ ch p = 10
        · rw [vl_n (by omega) (by omega) cx]
          refine Or.inl ⟨rfl, ?_⟩
          show o.1.toInt = 10000 + p
          have f250 : f_readTag_250 I A = some o → o.1.toInt = 10000 + p := fun hf => by
            unfold f_readTag_250 at hf
            obtain ⟨⟨r1, I1, A1⟩, h_r1, hf⟩ := m_clE hf
            dsimp only at hf
            have q9 := v_fault (x1 := 1) (x2 := I 37) (by decide) (by omega) h_r1
            dsimp only at q9
            cases hf
            show r1.toInt = _
            omega
          unfold f_readTag_230 at hf
          rcases m_ifE hf with ⟨c9, hf⟩ | ⟨c9, hf⟩
          · exact f250 hf
          · replace c9 := ti_eqN (a := I 37) (b := I 1) c9 rfl rfl
            obtain ⟨r9, h_r9, hf⟩ := m_clR hf (fun _ h => rro_look h)
            have q9 := tgi_lk h h_r9
            dsimp only at q9
            rcases m_ifE hf with ⟨c10, hf⟩ | ⟨c10, hf⟩
            · exact f250 hf
            · replace c10 := ti_eqN (a := r9) (b := (10 : Int32)) c10 rfl (show (10 : Int32).toInt = 10 from rfl)
              omega
        · exact cont I p h (by omega) (by omega) (by omega) (vl_s (by omega) (by omega) cx) hf
end TGS
end
section
/-- the name of the reference's tag k of game g -/
noncomputable def NMr (A : Nat → Nat → Int32) (g k : Int) (u : List Int) : Prop := (A 19 (8 * g + k).toNat).toInt = (u.length : Int) ∧ u.length ≤ 12 ∧ ∀ i : Int, 0 ≤ i → i < (u.length : Int) → (A 20 (96 * g + 12 * k + i).toNat).toInt = wA u i
section TGN
variable {I : Nat → Int32} {A : Nat → Nat → Int32} {g k : Int} {u : List Int} {o : Int32 × MS} {x1 x2 x3 x4 : Int32}
theorem nmr_at {x v : Int32} {i : Int} (h : NMr A g k u) (e : v = A 20 (x).toNatClampNeg) (hx : x.toInt = 96 * g + 12 * k + i) (h0 : 0 ≤ i) (h1 : i < (u.length : Int)) : v.toInt = wA u i := by
  rw [e, ← h.2.2 i h0 h1, ← hx]
  rfl
theorem nmr_sz {x v : Int32} (h : NMr A g k u) (e : v = A 19 (x).toNatClampNeg) (hx : x.toInt = 8 * g + k) : v.toInt = (u.length : Int) := by
  rw [e, ← h.1, ← hx]
  rfl
theorem it_38 {s : List Int} (h : NMr A g k u) (hg : g = 0 ∨ g = 1) (hk : 0 ≤ k ∧ k ≤ 7) (h1 : x1.toInt = k) (h2 : x2.toInt = g) (h3 : (x3.toInt = 0 ∧ s = strL 0) ∨ (x3.toInt = 1 ∧ s = strL 10)) (h4 : x4.toInt = (s.length : Int)) : ∀ (n : Nat) (x5 x6 : Int32), (x5.toInt = 0 ∨ x5.toInt = 1) → (0 ≤ x6.toInt ∧ x6.toInt ≤ (s.length : Int)) → (x5.toInt = 1 ↔ u.length = s.length ∧ ∀ i : Int, 0 ≤ i → i < x6.toInt → wA u i = wA s i) → f_isTag_38 n x1 x2 x3 x4 x5 x6 I A = some o → (o.1.toInt = 0 ∨ o.1.toInt = 1) ∧ (o.1.toInt = 1 ↔ u = s) := by
  intro n
  induction n with
  | zero => intro x5 x6 _ _ _ hf; cases hf
  | succ n ih =>
    intro x5 x6 h5 h6 hi hf
    have hf : f_isTag_38s (f_isTag_38 n) x1 x2 x3 x4 x5 x6 I A = some o := hf
    have l0 : ((strL 0).length : Int) = 3 := rfl
    have l10 : ((strL 10).length : Int) = 6 := rfl
    have z0 : (0 : Int32).toInt = 0 := rfl
    have z1 : (1 : Int32).toInt = 1 := rfl
    have ls : (s.length : Int) ≤ 6 := by rcases h3 with ⟨-, e⟩ | ⟨-, e⟩ <;> rw [e] <;> decide
    have s3 : (x3.toInt = 0 → s = strL 0) ∧ (x3.toInt ≠ 0 → s = strL 10) := ⟨fun e => by rcases h3 with ⟨-, g⟩ | ⟨g, -⟩; exact g; omega, fun e => by rcases h3 with ⟨g, -⟩ | ⟨-, g⟩; omega; exact g⟩
    have c0 : wA (strL 0) 0 = 70 := by decide
    have c1' : wA (strL 0) 1 = 69 := by decide
    have c2' : wA (strL 0) 2 = 78 := by decide
    have d0 : wA (strL 10) 0 = 82 := by decide
    have d1 : wA (strL 10) 1 = 101 := by decide
    have d2 : wA (strL 10) 2 = 115 := by decide
    have d3 : wA (strL 10) 3 = 117 := by decide
    have d4 : wA (strL 10) 4 = 108 := by decide
    have d5 : wA (strL 10) 5 = 116 := by decide
    have go : ∀ t0 : Int32, x5.toInt = 1 → x6.toInt < (s.length : Int) → t0.toInt = wA s x6.toInt → f_isTag_136 (f_isTag_38 n) x1 x2 x3 x4 x6 t0 I A = some o → (o.1.toInt = 0 ∨ o.1.toInt = 1) ∧ (o.1.toInt = 1 ↔ u = s) := by
      intro t0 hx hlt ht hf
      obtain ⟨hl, hs⟩ := hi.1 hx
      have fin : ∀ t1 : Int32, (t1.toInt = 0 ∨ t1.toInt = 1) → (t1.toInt = 1 ↔ wA u x6.toInt = wA s x6.toInt) → f_isTag_165 (f_isTag_38 n) x1 x2 x3 x4 x6 t1 I A = some o → (o.1.toInt = 0 ∨ o.1.toInt = 1) ∧ (o.1.toInt = 1 ↔ u = s) := by
        intro t1 hb ht1 hf
        unfold f_isTag_165 at hf
        obtain ⟨v1, e1, hf⟩ := m_bndE hf
        have t1' : v1.toInt = x6.toInt + 1 := ti_add e1 rfl (show (1 : Int32).toInt = 1 from rfl) (by omega) (by omega)
        refine ih t1 v1 hb (by omega) ?_ hf
        rw [ht1]
        constructor
        · intro e
          refine ⟨hl, fun i i0 i1 => ?_⟩
          by_cases ei : i = x6.toInt
          · rw [ei]; exact e
          · exact hs i i0 (by omega)
        · intro e
          exact e.2 x6.toInt h6.1 (by omega)
      unfold f_isTag_136 at hf
      obtain ⟨v1, e_v1, hf⟩ := m_bndE hf
      have t_v1 : v1.toInt = 96 * x2.toInt := ti_mul e_v1 (show (96 : Int32).toInt = 96 from rfl) rfl (by omega) (by omega)
      obtain ⟨v2, e_v2, hf⟩ := m_bndE hf
      have t_v2 : v2.toInt = 12 * x1.toInt := ti_mul e_v2 (show (12 : Int32).toInt = 12 from rfl) rfl (by omega) (by omega)
      obtain ⟨v3, e_v3, hf⟩ := m_bndE hf
      have t_v3 : v3.toInt = v1.toInt + v2.toInt := ti_add e_v3 rfl rfl (by omega) (by omega)
      obtain ⟨v4, e_v4, hf⟩ := m_bndE hf
      have t_v4 : v4.toInt = v3.toInt + x6.toInt := ti_add e_v4 rfl rfl (by omega) (by omega)
      obtain ⟨-, hf⟩ := m_chkE hf
      obtain ⟨v5, e_v5, hf⟩ := m_bndE hf
      have q5 := nmr_at (i := x6.toInt) h e_v5 (by omega) h6.1 (by omega)
      rcases m_ifE hf with ⟨c1, hf⟩ | ⟨c1, hf⟩
      · skip
        replace c1 := ti_eqP (a := v5) (b := t0) c1 rfl rfl
        exact fin 1 (Or.inr rfl) ⟨fun _ => by omega, fun _ => rfl⟩ hf
      · skip
        replace c1 := ti_eqN (a := v5) (b := t0) c1 rfl rfl
        exact fin 0 (Or.inl rfl) ⟨fun e => absurd e (by decide), fun e => by omega⟩ hf
    unfold f_isTag_38s at hf
    rcases m_ifE hf with ⟨c1, hf⟩ | ⟨c1, hf⟩
    · skip
      replace c1 := ti_leP (a := x4) (b := x6) c1 rfl rfl
      unfold f_isTag_173 at hf
      obtain ⟨-, hf⟩ := m_chkE hf
      cases hf
      try dsimp only
      refine ⟨h5, ?_⟩
      rw [hi]
      constructor
      · rintro ⟨a, b⟩
        exact wA_ext a (fun i i0 i1 => b i i0 (by omega))
      · intro e
        rw [e]
        exact ⟨rfl, fun _ _ _ => rfl⟩
    · skip
      replace c1 := ti_leN (a := x4) (b := x6) c1 rfl rfl
      rcases m_ifE hf with ⟨c2, hf⟩ | ⟨c2, hf⟩
      · skip
        replace c2 := ti_eqP (a := x5) (b := (0 : Int32)) c2 rfl (show (0 : Int32).toInt = 0 from rfl)
        unfold f_isTag_173 at hf
        obtain ⟨-, hf⟩ := m_chkE hf
        cases hf
        try dsimp only
        refine ⟨h5, fun e => by omega, fun e => ?_⟩
        exact hi.2 ⟨by rw [e], fun _ _ _ => by rw [e]⟩
      · skip
        replace c2 := ti_eqN (a := x5) (b := (0 : Int32)) c2 rfl (show (0 : Int32).toInt = 0 from rfl)
        rcases m_ifE hf with ⟨c3, hf⟩ | ⟨c3, hf⟩
        · skip
          replace c3 := ti_eqP (a := x3) (b := (0 : Int32)) c3 rfl (show (0 : Int32).toInt = 0 from rfl)
          rcases m_ifE hf with ⟨c4, hf⟩ | ⟨c4, hf⟩
          · skip
            replace c4 := ti_eqP (a := x6) (b := (0 : Int32)) c4 rfl (show (0 : Int32).toInt = 0 from rfl)
            have es := s3.1 c3
            exact go 70 (by omega) (by omega) (by rw [es, show x6.toInt = 0 by omega]; exact c0.symm) hf
          · skip
            replace c4 := ti_eqN (a := x6) (b := (0 : Int32)) c4 rfl (show (0 : Int32).toInt = 0 from rfl)
            rcases m_ifE hf with ⟨c5, hf⟩ | ⟨c5, hf⟩
            · skip
              replace c5 := ti_eqP (a := x6) (b := (1 : Int32)) c5 rfl (show (1 : Int32).toInt = 1 from rfl)
              have es := s3.1 c3
              exact go 69 (by omega) (by omega) (by rw [es, show x6.toInt = 1 by omega]; exact c1'.symm) hf
            · skip
              replace c5 := ti_eqN (a := x6) (b := (1 : Int32)) c5 rfl (show (1 : Int32).toInt = 1 from rfl)
              have es := s3.1 c3
              rw [es, l0] at h4
              exact go 78 (by omega) (by rw [es, l0]; omega) (by rw [es, show x6.toInt = 2 by omega]; exact c2'.symm) hf
        · skip
          replace c3 := ti_eqN (a := x3) (b := (0 : Int32)) c3 rfl (show (0 : Int32).toInt = 0 from rfl)
          rcases m_ifE hf with ⟨c6, hf⟩ | ⟨c6, hf⟩
          · skip
            replace c6 := ti_eqP (a := x6) (b := (0 : Int32)) c6 rfl (show (0 : Int32).toInt = 0 from rfl)
            have es := s3.2 c3
            exact go 82 (by omega) (by omega) (by rw [es, show x6.toInt = 0 by omega]; exact d0.symm) hf
          · skip
            replace c6 := ti_eqN (a := x6) (b := (0 : Int32)) c6 rfl (show (0 : Int32).toInt = 0 from rfl)
            rcases m_ifE hf with ⟨c7, hf⟩ | ⟨c7, hf⟩
            · skip
              replace c7 := ti_eqP (a := x6) (b := (1 : Int32)) c7 rfl (show (1 : Int32).toInt = 1 from rfl)
              have es := s3.2 c3
              exact go 101 (by omega) (by omega) (by rw [es, show x6.toInt = 1 by omega]; exact d1.symm) hf
            · skip
              replace c7 := ti_eqN (a := x6) (b := (1 : Int32)) c7 rfl (show (1 : Int32).toInt = 1 from rfl)
              rcases m_ifE hf with ⟨c8, hf⟩ | ⟨c8, hf⟩
              · skip
                replace c8 := ti_eqP (a := x6) (b := (2 : Int32)) c8 rfl (show (2 : Int32).toInt = 2 from rfl)
                have es := s3.2 c3
                exact go 115 (by omega) (by omega) (by rw [es, show x6.toInt = 2 by omega]; exact d2.symm) hf
              · skip
                replace c8 := ti_eqN (a := x6) (b := (2 : Int32)) c8 rfl (show (2 : Int32).toInt = 2 from rfl)
                rcases m_ifE hf with ⟨c9, hf⟩ | ⟨c9, hf⟩
                · skip
                  replace c9 := ti_eqP (a := x6) (b := (3 : Int32)) c9 rfl (show (3 : Int32).toInt = 3 from rfl)
                  have es := s3.2 c3
                  exact go 117 (by omega) (by omega) (by rw [es, show x6.toInt = 3 by omega]; exact d3.symm) hf
                · skip
                  replace c9 := ti_eqN (a := x6) (b := (3 : Int32)) c9 rfl (show (3 : Int32).toInt = 3 from rfl)
                  rcases m_ifE hf with ⟨c10, hf⟩ | ⟨c10, hf⟩
                  · skip
                    replace c10 := ti_eqP (a := x6) (b := (4 : Int32)) c10 rfl (show (4 : Int32).toInt = 4 from rfl)
                    have es := s3.2 c3
                    exact go 108 (by omega) (by omega) (by rw [es, show x6.toInt = 4 by omega]; exact d4.symm) hf
                  · skip
                    replace c10 := ti_eqN (a := x6) (b := (4 : Int32)) c10 rfl (show (4 : Int32).toInt = 4 from rfl)
                    have es := s3.2 c3
                    rw [es, l10] at h4
                    exact go 116 (by omega) (by rw [es, l10]; omega) (by rw [es, show x6.toInt = 5 by omega]; exact d5.symm) hf
theorem v_isTag {s : List Int} (h : NMr A g k u) (hg : g = 0 ∨ g = 1) (hk : 0 ≤ k ∧ k ≤ 7) (h1 : x1.toInt = k) (h2 : x2.toInt = g) (h3 : (x3.toInt = 0 ∧ s = strL 0) ∨ (x3.toInt = 1 ∧ s = strL 10)) (hf : f_isTag x1 x2 x3 I A = some o) : (o.1.toInt = 0 ∨ o.1.toInt = 1) ∧ (o.1.toInt = 1 ↔ u = s) := by
  have hf : f_isTag_0 x1 x2 x3 I A = some o := hf
  have l0 : ((strL 0).length : Int) = 3 := rfl
  have l10 : ((strL 10).length : Int) = 6 := rfl
  have z0 : (0 : Int32).toInt = 0 := rfl
  have mid : ∀ t0 : Int32, t0.toInt = (s.length : Int) → f_isTag_10 x1 x2 x3 t0 I A = some o → (o.1.toInt = 0 ∨ o.1.toInt = 1) ∧ (o.1.toInt = 1 ↔ u = s) := by
    intro t0 ht hf
    unfold f_isTag_10 at hf
    obtain ⟨v1, e_v1, hf⟩ := m_bndE hf
    have t_v1 : v1.toInt = 8 * x2.toInt := ti_mul e_v1 (show (8 : Int32).toInt = 8 from rfl) rfl (by omega) (by omega)
    obtain ⟨v2, e_v2, hf⟩ := m_bndE hf
    have t_v2 : v2.toInt = v1.toInt + x1.toInt := ti_add e_v2 rfl rfl (by omega) (by omega)
    obtain ⟨-, hf⟩ := m_chkE hf
    obtain ⟨v3, e_v3, hf⟩ := m_bndE hf
    have q3 := nmr_sz h e_v3 (by omega)
    rcases m_ifE hf with ⟨c1, hf⟩ | ⟨c1, hf⟩
    · skip
      replace c1 := ti_eqP (a := v3) (b := t0) c1 rfl rfl
      exact it_38 h hg hk h1 h2 h3 ht mFuel 1 0 (Or.inr rfl) (by omega) ⟨fun _ => ⟨by omega, fun i i0 i1 => by omega⟩, fun _ => rfl⟩ hf
    · skip
      replace c1 := ti_eqN (a := v3) (b := t0) c1 rfl rfl
      exact it_38 h hg hk h1 h2 h3 ht mFuel 0 0 (Or.inl rfl) (by omega) ⟨fun e => absurd e (by decide), fun e => by have := e.1; omega⟩ hf
  unfold f_isTag_0 at hf
  rcases m_ifE hf with ⟨c1, hf⟩ | ⟨c1, hf⟩
  · replace c1 := ti_eqP (a := x3) (b := (0 : Int32)) c1 rfl rfl
    refine mid 3 ?_ hf
    rcases h3 with ⟨-, e⟩ | ⟨e, -⟩
    · rw [e]; rfl
    · omega
  · replace c1 := ti_eqN (a := x3) (b := (0 : Int32)) c1 rfl rfl
    refine mid 6 ?_ hf
    rcases h3 with ⟨e, -⟩ | ⟨-, e⟩
    · omega
    · rw [e]; rfl
theorem nt_47 {self5 : Int32 → Int32 → Int32 → Int32 → (Nat → Int32) → (Nat → Nat → Int32) → Option (Int32 × MS)} {P : Prop} {s : List Int} {i0 : Int} (h : NMr A g k u) (hs : NMr A g i0 s) (hg : g = 0 ∨ g = 1) (hk : 0 ≤ k ∧ k ≤ 7) (hi : 0 ≤ i0 ∧ i0 < k) (h1 : x1.toInt = g) (h2 : x2.toInt = k) (h4 : x4.toInt = i0) (hend : ∀ x5 : Int32, (x5.toInt = 0 ∨ x5.toInt = 1) → (x5.toInt = 1 ↔ s = u) → f_isNameThere_119 self5 x1 x2 x3 x4 x5 I A = some o → P) : ∀ (n : Nat) (x5 x6 : Int32), (x5.toInt = 0 ∨ x5.toInt = 1) → (0 ≤ x6.toInt ∧ x6.toInt ≤ (u.length : Int)) → (x5.toInt = 1 ↔ s.length = u.length ∧ ∀ i : Int, 0 ≤ i → i < x6.toInt → wA s i = wA u i) → f_isNameThere_47 self5 n x1 x2 x3 x4 x5 x6 I A = some o → P := by
  intro n
  induction n with
  | zero => intro x5 x6 _ _ _ hf; cases hf
  | succ n ih =>
    intro x5 x6 h5 h6 hv hf
    have hf : f_isNameThere_47s self5 (f_isNameThere_47 self5 n) x1 x2 x3 x4 x5 x6 I A = some o := hf
    have hl := h.2.1
    have nxt : ∀ t0 : Int32, (t0.toInt = 0 ∨ t0.toInt = 1) → x5.toInt = 1 → x6.toInt < (u.length : Int) → (t0.toInt = 1 ↔ wA s x6.toInt = wA u x6.toInt) → f_isNameThere_111 self5 (f_isNameThere_47 self5 n) x1 x2 x3 x4 x6 t0 I A = some o → P := by
      intro t0 hb hx hlt ht hf
      obtain ⟨el, es⟩ := hv.1 hx
      unfold f_isNameThere_111 at hf
      obtain ⟨v1, e1, hf⟩ := m_bndE hf
      have t1' : v1.toInt = x6.toInt + 1 := ti_add e1 rfl (show (1 : Int32).toInt = 1 from rfl) (by omega) (by omega)
      refine ih t0 v1 hb (by omega) ?_ hf
      rw [ht]
      constructor
      · intro e
        refine ⟨el, fun i j0 j1 => ?_⟩
        by_cases ei : i = x6.toInt
        · rw [ei]; exact e
        · exact es i j0 (by omega)
      · intro e
        exact e.2 x6.toInt h6.1 (by omega)
    unfold f_isNameThere_47s at hf
    obtain ⟨v1, e_v1, hf⟩ := m_bndE hf
    have t_v1 : v1.toInt = 8 * x1.toInt := ti_mul e_v1 (show (8 : Int32).toInt = 8 from rfl) rfl (by omega) (by omega)
    obtain ⟨v2, e_v2, hf⟩ := m_bndE hf
    have t_v2 : v2.toInt = v1.toInt + x2.toInt := ti_add e_v2 rfl rfl (by omega) (by omega)
    obtain ⟨-, hf⟩ := m_chkE hf
    obtain ⟨v3, e_v3, hf⟩ := m_bndE hf
    have q3 := nmr_sz h e_v3 (by omega)
    rcases m_ifE hf with ⟨c1, hf⟩ | ⟨c1, hf⟩
    · skip
      replace c1 := ti_leP (a := v3) (b := x6) c1 rfl rfl
      refine hend x5 h5 ?_ hf
      rw [hv]
      constructor
      · rintro ⟨a, b⟩
        exact wA_ext a (fun i j0 j1 => b i j0 (by omega))
      · intro e
        rw [e]
        exact ⟨rfl, fun _ _ _ => rfl⟩
    · skip
      replace c1 := ti_leN (a := v3) (b := x6) c1 rfl rfl
      rcases m_ifE hf with ⟨c2, hf⟩ | ⟨c2, hf⟩
      · skip
        replace c2 := ti_eqP (a := x5) (b := (0 : Int32)) c2 rfl (show (0 : Int32).toInt = 0 from rfl)
        refine hend x5 h5 ⟨fun e => by omega, fun e => hv.2 ⟨by rw [e], fun _ _ _ => by rw [e]⟩⟩ hf
      · skip
        replace c2 := ti_eqN (a := x5) (b := (0 : Int32)) c2 rfl (show (0 : Int32).toInt = 0 from rfl)
        obtain ⟨el, es⟩ := hv.1 (by omega)
        obtain ⟨v4, e_v4, hf⟩ := m_bndE hf
        have t_v4 : v4.toInt = 96 * x1.toInt := ti_mul e_v4 (show (96 : Int32).toInt = 96 from rfl) rfl (by omega) (by omega)
        obtain ⟨v5, e_v5, hf⟩ := m_bndE hf
        have t_v5 : v5.toInt = 12 * x4.toInt := ti_mul e_v5 (show (12 : Int32).toInt = 12 from rfl) rfl (by omega) (by omega)
        obtain ⟨v6, e_v6, hf⟩ := m_bndE hf
        have t_v6 : v6.toInt = v4.toInt + v5.toInt := ti_add e_v6 rfl rfl (by omega) (by omega)
        obtain ⟨v7, e_v7, hf⟩ := m_bndE hf
        have t_v7 : v7.toInt = v6.toInt + x6.toInt := ti_add e_v7 rfl rfl (by omega) (by omega)
        obtain ⟨-, hf⟩ := m_chkE hf
        obtain ⟨v8, e_v8, hf⟩ := m_bndE hf
        have q8 := nmr_at (i := x6.toInt) hs e_v8 (by omega) h6.1 (by omega)
        obtain ⟨v9, e_v9, hf⟩ := m_bndE hf
        have t_v9 : v9.toInt = 96 * x1.toInt := ti_mul e_v9 (show (96 : Int32).toInt = 96 from rfl) rfl (by omega) (by omega)
        obtain ⟨v10, e_v10, hf⟩ := m_bndE hf
        have t_v10 : v10.toInt = 12 * x2.toInt := ti_mul e_v10 (show (12 : Int32).toInt = 12 from rfl) rfl (by omega) (by omega)
        obtain ⟨v11, e_v11, hf⟩ := m_bndE hf
        have t_v11 : v11.toInt = v9.toInt + v10.toInt := ti_add e_v11 rfl rfl (by omega) (by omega)
        obtain ⟨v12, e_v12, hf⟩ := m_bndE hf
        have t_v12 : v12.toInt = v11.toInt + x6.toInt := ti_add e_v12 rfl rfl (by omega) (by omega)
        obtain ⟨-, hf⟩ := m_chkE hf
        obtain ⟨v13, e_v13, hf⟩ := m_bndE hf
        have q13 := nmr_at (i := x6.toInt) h e_v13 (by omega) h6.1 (by omega)
        rcases m_ifE hf with ⟨c3, hf⟩ | ⟨c3, hf⟩
        · skip
          replace c3 := ti_eqP (a := v8) (b := v13) c3 rfl rfl
          exact nxt 1 (Or.inr rfl) (by omega) (by omega) ⟨fun _ => by omega, fun _ => rfl⟩ hf
        · skip
          replace c3 := ti_eqN (a := v8) (b := v13) c3 rfl rfl
          exact nxt 0 (Or.inl rfl) (by omega) (by omega) ⟨fun e => absurd e (by decide), fun e => by omega⟩ hf
theorem nt_5 {nf : Int → List Int} (h : NMr A g k u) (hn : ∀ i, 0 ≤ i → i < k → NMr A g i (nf i)) (hg : g = 0 ∨ g = 1) (hk : 0 ≤ k ∧ k ≤ 7) (h1 : x1.toInt = g) (h2 : x2.toInt = k) : ∀ (n : Nat) (x3 x4 : Int32), (x3.toInt = 0 ∨ x3.toInt = 1) → (0 ≤ x4.toInt ∧ x4.toInt ≤ k) → (x3.toInt = 1 ↔ ∃ i, 0 ≤ i ∧ i < x4.toInt ∧ nf i = u) → f_isNameThere_5 n x1 x2 x3 x4 I A = some o → (o.1.toInt = 0 ∨ o.1.toInt = 1) ∧ (o.1.toInt = 1 ↔ ∃ i, 0 ≤ i ∧ i < k ∧ nf i = u) := by
  intro n
  induction n with
  | zero => intro x3 x4 _ _ _ hf; cases hf
  | succ n ih =>
    intro x3 x4 h3 h4 hv hf
    have hf : f_isNameThere_5s (f_isNameThere_5 n) x1 x2 x3 x4 I A = some o := hf
    have z0 : (0 : Int32).toInt = 0 := rfl
    have stp' : ∀ t0 : Int32, x4.toInt < k → (t0.toInt = 0 ∨ t0.toInt = 1) → (t0.toInt = 1 ↔ x3.toInt = 1 ∨ nf x4.toInt = u) → f_isNameThere_133 (f_isNameThere_5 n) x1 x2 x4 t0 I A = some o → (o.1.toInt = 0 ∨ o.1.toInt = 1) ∧ (o.1.toInt = 1 ↔ ∃ i, 0 ≤ i ∧ i < k ∧ nf i = u) := by
      intro t0 hlt hb ht hf
      unfold f_isNameThere_133 at hf
      obtain ⟨v1, e1, hf⟩ := m_bndE hf
      have t1' : v1.toInt = x4.toInt + 1 := ti_add e1 rfl (show (1 : Int32).toInt = 1 from rfl) (by omega) (by omega)
      refine ih t0 v1 hb (by omega) ?_ hf
      rw [ht, hv]
      constructor
      · rintro (⟨i, a, b, c⟩ | e)
        · exact ⟨i, a, by omega, c⟩
        · exact ⟨x4.toInt, h4.1, by omega, e⟩
      · rintro ⟨i, a, b, c⟩
        by_cases e : i = x4.toInt
        · right; rw [← e]; exact c
        · exact Or.inl ⟨i, a, by omega, c⟩
    have hend : x4.toInt < k → ∀ x5 : Int32, (x5.toInt = 0 ∨ x5.toInt = 1) → (x5.toInt = 1 ↔ nf x4.toInt = u) → f_isNameThere_119 (f_isNameThere_5 n) x1 x2 x3 x4 x5 I A = some o → (o.1.toInt = 0 ∨ o.1.toInt = 1) ∧ (o.1.toInt = 1 ↔ ∃ i, 0 ≤ i ∧ i < k ∧ nf i = u) := by
      intro hlt x5 h5 hx5 hf
      unfold f_isNameThere_119 at hf
      rcases m_ifE hf with ⟨c1, hf⟩ | ⟨c1, hf⟩
      · replace c1 := ti_eqP (a := x3) (b := (0 : Int32)) c1 rfl rfl
        rcases m_ifE hf with ⟨c2, hf⟩ | ⟨c2, hf⟩
        · replace c2 := ti_eqP (a := x5) (b := (0 : Int32)) c2 rfl rfl
          refine stp' 0 hlt (Or.inl rfl) ⟨fun e => absurd e (by decide), fun e => ?_⟩ hf
          rcases e with e | e
          · clear hv; omega
          · have := hx5.2 e; clear hv; omega
        · replace c2 := ti_eqN (a := x5) (b := (0 : Int32)) c2 rfl rfl
          exact stp' 1 hlt (Or.inr rfl) ⟨fun _ => Or.inr (hx5.1 (by clear hv; omega)), fun _ => rfl⟩ hf
      · replace c1 := ti_eqN (a := x3) (b := (0 : Int32)) c1 rfl rfl
        exact stp' 1 hlt (Or.inr rfl) ⟨fun _ => Or.inl (by clear hv; omega), fun _ => rfl⟩ hf
    unfold f_isNameThere_5s at hf
    rcases m_ifE hf with ⟨c1, hf⟩ | ⟨c1, hf⟩
    · replace c1 := ti_leP (a := x2) (b := x4) c1 rfl rfl
      obtain ⟨-, hf⟩ := m_chkE hf
      cases hf
      have e : x4.toInt = k := by clear hv; omega
      rw [e] at hv
      exact ⟨h3, hv⟩
    · replace c1 := ti_leN (a := x2) (b := x4) c1 rfl rfl
      have hlt : x4.toInt < k := by clear hv; omega
      have hs := hn x4.toInt h4.1 hlt
      obtain ⟨v1, e1, hf⟩ := m_bndE hf
      obtain ⟨v2, e2, hf⟩ := m_bndE hf
      obtain ⟨-, hf⟩ := m_chkE hf
      obtain ⟨v3, e3, hf⟩ := m_bndE hf
      obtain ⟨v4, e4, hf⟩ := m_bndE hf
      obtain ⟨v5, e5, hf⟩ := m_bndE hf
      obtain ⟨-, hf⟩ := m_chkE hf
      obtain ⟨v6, e6, hf⟩ := m_bndE hf
      have he := hend hlt
      clear hv
      have t1 : v1.toInt = 8 * x1.toInt := ti_mul e1 (show (8 : Int32).toInt = 8 from rfl) rfl (by omega) (by omega)
      have t2 : v2.toInt = v1.toInt + x4.toInt := ti_add e2 rfl rfl (by omega) (by omega)
      have t4 : v4.toInt = 8 * x1.toInt := ti_mul e4 (show (8 : Int32).toInt = 8 from rfl) rfl (by omega) (by omega)
      have t5 : v5.toInt = v4.toInt + x2.toInt := ti_add e5 rfl rfl (by omega) (by omega)
      have q3 := nmr_sz hs e3 (by omega)
      have q6 := nmr_sz h e6 (by omega)
      rcases m_ifE hf with ⟨c2, hf⟩ | ⟨c2, hf⟩
      · replace c2 := ti_eqP (a := v3) (b := v6) c2 rfl rfl
        exact nt_47 h hs hg hk ⟨h4.1, hlt⟩ h1 h2 rfl he mFuel 1 0 (Or.inr rfl) (by omega) ⟨fun _ => ⟨by omega, fun i i0 i1 => by omega⟩, fun _ => rfl⟩ hf
      · replace c2 := ti_eqN (a := v3) (b := v6) c2 rfl rfl
        exact nt_47 h hs hg hk ⟨h4.1, hlt⟩ h1 h2 rfl he mFuel 0 0 (Or.inl rfl) (by omega) ⟨fun e => absurd e (by decide), fun e => by have := e.1; omega⟩ hf
theorem v_isNameThere {nf : Int → List Int} (h : NMr A g k u) (hn : ∀ i, 0 ≤ i → i < k → NMr A g i (nf i)) (hg : g = 0 ∨ g = 1) (hk : 0 ≤ k ∧ k ≤ 7) (h1 : x1.toInt = g) (h2 : x2.toInt = k) (hf : f_isNameThere x1 x2 I A = some o) : (o.1.toInt = 0 ∨ o.1.toInt = 1) ∧ (o.1.toInt = 1 ↔ ∃ i, 0 ≤ i ∧ i < k ∧ nf i = u) := nt_5 h hn hg hk h1 h2 mFuel 0 0 (Or.inl rfl) (show (0 : Int) ≤ (0 : Int32).toInt ∧ (0 : Int32).toInt ≤ k from ⟨by decide, hk.1⟩) ⟨fun e => absurd e (by decide), fun ⟨i, a, b, _⟩ => by have z : (0 : Int32).toInt = 0 := rfl; omega⟩ hf
end TGN
end
