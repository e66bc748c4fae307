/-- the man of a letter -/
def manV (c : Int) : Int := if c = 80 then 1 else if c = 78 then 2 else if c = 66 then 3 else if c = 82 then 4 else if c = 81 then 5 else if c = 75 then 6 else if c = 112 then 9 else if c = 110 then 10 else if c = 98 then 11 else if c = 114 then 12 else if c = 113 then 13 else if c = 107 then 14 else 0
theorem manV_b (c : Int) : 0 ≤ manV c ∧ manV c ≤ 14 ∧ manV c ≠ 7 ∧ manV c ≠ 8 := by
  unfold manV
  omega
theorem manV_L {c : Int} (h : manV c ≠ 0) : isL c := by
  unfold manV at h
  unfold isL
  omega
/-- one rank of a position's text -/
def rkV (V : Int → Int) (base : Int) : Nat → Int → Int → Int → (Int → Int) → Option (Int × (Int → Int))
  | 0, _, _, _, _ => none
  | k + 1, p, f, dg, m => if 8 ≤ f then (if f = 8 then some (p, m) else none) else if 49 ≤ V p ∧ V p ≤ 56 then (if dg = 0 then rkV V base k (p + 1) (f + (V p - 48)) 1 m else none) else if manV (V p) = 0 then none else rkV V base k (p + 1) (f + 1) 0 (up m (base + f) (manV (V p)))
section RKV
variable {V : Int → Int} {base p f dg : Int} {m : Int → Int} {k : Nat}
theorem rk_end (h : f = 8) : rkV V base (k + 1) p f dg m = some (p, m) := by
  show (if 8 ≤ f then (if f = 8 then some (p, m) else none) else _) = _
  rw [if_pos (by omega), if_pos h]
theorem rk_over (h : 8 < f) : rkV V base (k + 1) p f dg m = none := by
  show (if 8 ≤ f then (if f = 8 then some (p, m) else none) else _) = _
  rw [if_pos (by omega), if_neg (by omega)]
theorem rk_dg (h : f < 8) (hd : 49 ≤ V p ∧ V p ≤ 56) (h0 : dg = 0) : rkV V base (k + 1) p f dg m = rkV V base k (p + 1) (f + (V p - 48)) 1 m := by
  show (if 8 ≤ f then _ else if 49 ≤ V p ∧ V p ≤ 56 then (if dg = 0 then rkV V base k (p + 1) (f + (V p - 48)) 1 m else none) else _) = _
  rw [if_neg (by omega), if_pos hd, if_pos h0]
theorem rk_dd (h : f < 8) (hd : 49 ≤ V p ∧ V p ≤ 56) (h0 : dg ≠ 0) : rkV V base (k + 1) p f dg m = none := by
  show (if 8 ≤ f then _ else if 49 ≤ V p ∧ V p ≤ 56 then (if dg = 0 then rkV V base k (p + 1) (f + (V p - 48)) 1 m else none) else _) = _
  rw [if_neg (by omega), if_pos hd, if_neg h0]
theorem rk_no (h : f < 8) (hd : ¬ (49 ≤ V p ∧ V p ≤ 56)) (h0 : manV (V p) = 0) : rkV V base (k + 1) p f dg m = none := by
  show (if 8 ≤ f then _ else if 49 ≤ V p ∧ V p ≤ 56 then _ else if manV (V p) = 0 then none else _) = _
  rw [if_neg (by omega), if_neg hd, if_pos h0]
theorem rk_man (h : f < 8) (hd : ¬ (49 ≤ V p ∧ V p ≤ 56)) (h0 : manV (V p) ≠ 0) : rkV V base (k + 1) p f dg m = rkV V base k (p + 1) (f + 1) 0 (up m (base + f) (manV (V p))) := by
  show (if 8 ≤ f then _ else if 49 ≤ V p ∧ V p ≤ 56 then _ else if manV (V p) = 0 then none else rkV V base k (p + 1) (f + 1) 0 (up m (base + f) (manV (V p)))) = _
  rw [if_neg (by omega), if_neg hd, if_neg h0]
end RKV
/-- where a king is held, if there is one -/
def KI (m : Int → Int) (k w : Int) : Prop := ∀ s, 0 ≤ s → s < 64 → m s = 6 + 8 * w → 0 ≤ k ∧ k < 64 ∧ m k = 6 + 8 * w
/-- what is not yet read is empty -/
def Zr (m : Int → Int) (r f : Int) : Prop := ∀ s, 0 ≤ s → (s / 8 < r ∨ (s / 8 = r ∧ f ≤ s % 8)) → m s = 0
/-- only the board bb and the reader x0 change -/
def PFr (S S' : ZS) (x0 bb : Nat) : Prop := EqT S S' ∧ zP S' = zP S ∧ (∀ j a, a ≠ x0 → a ≠ bb → zI S' j a = zI S j a) ∧ (∀ a, a ≠ bb + 1 → zA S' a = zA S a) ∧ zc S' = zc S
section PFS
variable {S S1 S2 S' : ZS} {x0 bb : Nat}
theorem pfr_0 : PFr S S x0 bb := ⟨eqt_0, rfl, fun _ _ _ _ => rfl, fun _ _ => rfl, rfl⟩
theorem pfr_t (h : PFr S S1 x0 bb) (g : PFr S1 S2 x0 bb) : PFr S S2 x0 bb := ⟨eqt_t h.1 g.1, g.2.1.trans h.2.1, fun j a ha hb => (g.2.2.1 j a ha hb).trans (h.2.2.1 j a ha hb), fun a ha => (g.2.2.2.1 a ha).trans (h.2.2.2.1 a ha), g.2.2.2.2.trans h.2.2.2.2⟩
theorem pfr_b (h : SB S S' bb) : PFr S S' x0 bb := ⟨h.1, h.2.1, fun j a _ hb => h.2.2.1 j a hb, h.2.2.2.1, h.2.2.2.2⟩
theorem pfr_I {j : Nat} {v : Int32} (e : S' = zsI S j x0 v) : PFr S S' x0 bb := by
  subst e
  exact ⟨⟨rfl, rfl, rfl, rfl, rfl⟩, rfl, fun i a ha _ => zI_b ha, fun _ _ => rfl, rfl⟩
end PFS
/-- a reader of positions, its value and its board -/
def PJ (S0 S : ZS) (x0 vr bb : Nat) (V : Int → Int) (p : Int) (m : Int → Int) : Prop := PFr S0 S x0 bb ∧ (zK S0 x0 = 5 ∧ zP S0 0 x0 = some vr ∧ zK S0 vr = 6) ∧ (zK S0 bb = 0 ∧ zP S0 0 bb = some (bb + 1)) ∧ (rwC S0 vr = V ∧ (∀ i, 0 ≤ V i ∧ V i ≤ 127) ∧ ∀ c, zP S0 0 vr = some c → c ≠ bb + 1) ∧ (zI S 1 x0).toInt = p ∧ (0 ≤ p ∧ p ≤ 1000) ∧ mCb S bb = m
section PJS
variable {S0 S S' : ZS} {x0 vr bb : Nat} {V : Int → Int} {p : Int} {m : Int → Int} {o : Int32 × ZS} {x1 x2 : Int32}
theorem pj_ne (h : PJ S0 S x0 vr bb V p m) : vr ≠ x0 ∧ vr ≠ bb ∧ x0 ≠ bb := by
  obtain ⟨-, ⟨k5, -, k6⟩, ⟨k0, -⟩, -⟩ := h
  refine ⟨fun e => ?_, fun e => ?_, fun e => ?_⟩
  · rw [e, k5] at k6; exact absurd k6 (by decide)
  · rw [e, k0] at k6; exact absurd k6 (by decide)
  · rw [e, k0] at k5; exact absurd k5 (by decide)
theorem pj_V (h : PJ S0 S x0 vr bb V p m) : rwC S vr = V := by
  obtain ⟨n1, n2, -⟩ := pj_ne h
  obtain ⟨hF, -, -, ⟨hV, -, hc⟩, -⟩ := h
  rw [← hV]
  funext i
  unfold rwC
  rw [hF.2.2.1 1 vr n1 n2, hF.2.1]
  cases he : zP S0 0 vr with
  | none => rfl
  | some c =>
    have e := hF.2.2.2.1 c (hc c he)
    simp only [e]
theorem pj_P (h : PJ S0 S x0 vr bb V p m) : zP S 0 x0 = some vr ∧ zK S x0 = 5 ∧ zK S bb = 0 ∧ zP S 0 bb = some (bb + 1) := by
  obtain ⟨hF, ⟨k5, p0, k6⟩, ⟨k0, pb⟩, -⟩ := h
  exact ⟨by rw [hF.2.1]; exact p0, by rw [hF.1.2.2.1]; exact k5, by rw [hF.1.2.2.1]; exact k0, by rw [hF.2.1]; exact pb⟩
theorem pj_at {v : Int32} {q : Int} (h : PJ S0 S x0 vr bb V p m) (e : S' = zsI S 1 x0 v) (hv : v.toInt = q) (hq : 0 ≤ q ∧ q ≤ 1000) : PJ S0 S' x0 vr bb V q m ∧ ∀ j, zI S' j bb = zI S j bb := by
  obtain ⟨-, -, n3⟩ := pj_ne h
  obtain ⟨hF, a1, a2, a3, a4, a5, a6⟩ := h
  refine ⟨⟨pfr_t hF (pfr_I e), a1, a2, a3, by rw [e, zI_self]; exact hv, hq, (mB_I e).trans a6⟩, fun j => by rw [e, zI_b (fun g => n3 g.symm)]⟩
theorem p_skipP (h : PJ S0 S x0 vr bb V p m) (hp : p ≤ 990) (hf : f_X5_skip x0 x1 S = some o) : (∀ j, zI o.2 j bb = zI S j bb) ∧ ((o.1.toInt = 1 ∧ V p = x1.toInt ∧ PJ S0 o.2 x0 vr bb V (p + 1) m) ∨ (o.1.toInt = 0 ∧ V p ≠ x1.toInt ∧ o.2 = S)) := by
  have hf : f_X5_skip_0 x0 x1 S = some o := hf
  obtain ⟨P0, k5, k0, pb⟩ := pj_P h
  have hV := pj_V h
  obtain ⟨-, -, -, -, hp4, hp5, -⟩ := id h
  unfold f_X5_skip_0 at hf
  obtain ⟨-, hf⟩ := m_chkE hf
  replace hf := m_calY hf P0
  obtain ⟨-, hf⟩ := m_chkE hf
  obtain ⟨-, hf⟩ := m_chkE hf
  obtain ⟨r2, h_r2, hf⟩ := m_calR hf (fun _ h => ro_X6_at h)
  dsimp only at hf
  have p_r2 := pc_X6_at h_r2
  dsimp only at p_r2
  rw [hV, hp4] at p_r2
  rcases m_ifE hf with ⟨c1, hf⟩ | ⟨c1, hf⟩
  · skip
    replace c1 := ti_eqP (a := r2) (b := x1) c1 rfl rfl
    obtain ⟨-, hf⟩ := m_chkE hf
    obtain ⟨v3, e_v3, hf⟩ := m_bndE hf
    have t_v3 : v3.toInt = (zI S 1 x0).toInt + 1 := ti_add e_v3 rfl (show (1 : Int32).toInt = 1 from rfl) (by omega) (by omega)
    obtain ⟨-, hf⟩ := m_chkE hf
    obtain ⟨S4, e_S4, hf⟩ := m_bndE hf
    obtain ⟨-, hf⟩ := m_chkE hf
    cases hf
    try dsimp only
    obtain ⟨g1, g2⟩ := pj_at (q := p + 1) h e_S4 (by omega) (by omega)
    exact ⟨g2, Or.inl ⟨rfl, by omega, g1⟩⟩
  · skip
    replace c1 := ti_eqN (a := r2) (b := x1) c1 rfl rfl
    obtain ⟨-, hf⟩ := m_chkE hf
    cases hf
    try dsimp only
    exact ⟨fun _ => rfl, Or.inr ⟨rfl, by omega, rfl⟩⟩
theorem p_man {x1 : Int32} (hb : 0 ≤ x1.toInt ∧ x1.toInt ≤ 127) (hL : isL x1.toInt) (hf : f_J0_indexOf_0f7a4 1 x1 S = some o) : o.1.toInt + 1 = manV x1.toInt ∧ -1 ≤ o.1.toInt ∧ o.1.toInt ≤ 13 := by
  have g := p_indexOf hb (by decide) (by decide) hf
  have hl : ((strL 1).length : Int) = 14 := rfl
  rw [hl] at g
  have s0 : (strL 1).getD 0 0 = 80 := rfl
  have s1 : (strL 1).getD 1 0 = 78 := rfl
  have s2 : (strL 1).getD 2 0 = 66 := rfl
  have s3 : (strL 1).getD 3 0 = 82 := rfl
  have s4 : (strL 1).getD 4 0 = 81 := rfl
  have s5 : (strL 1).getD 5 0 = 75 := rfl
  have s6 : (strL 1).getD 6 0 = 32 := rfl
  have s7 : (strL 1).getD 7 0 = 32 := rfl
  have s8 : (strL 1).getD 8 0 = 112 := rfl
  have s9 : (strL 1).getD 9 0 = 110 := rfl
  have s10 : (strL 1).getD 10 0 = 98 := rfl
  have s11 : (strL 1).getD 11 0 = 114 := rfl
  have s12 : (strL 1).getD 12 0 = 113 := rfl
  have s13 : (strL 1).getD 13 0 = 107 := rfl
  unfold isL at hL
  rcases g with ⟨a, b⟩ | ⟨a1, a2, a3, a4⟩
  · have b0 := b 0 (by decide) (by decide)
    have b1 := b 1 (by decide) (by decide)
    have b2 := b 2 (by decide) (by decide)
    have b3 := b 3 (by decide) (by decide)
    have b4 := b 4 (by decide) (by decide)
    have b5 := b 5 (by decide) (by decide)
    have b8 := b 8 (by decide) (by decide)
    have b9 := b 9 (by decide) (by decide)
    have b10 := b 10 (by decide) (by decide)
    have b11 := b 11 (by decide) (by decide)
    have b12 := b 12 (by decide) (by decide)
    have b13 := b 13 (by decide) (by decide)
    rw [show Int.toNat 0 = 0 from rfl, s0] at b0
    rw [show Int.toNat 1 = 1 from rfl, s1] at b1
    rw [show Int.toNat 2 = 2 from rfl, s2] at b2
    rw [show Int.toNat 3 = 3 from rfl, s3] at b3
    rw [show Int.toNat 4 = 4 from rfl, s4] at b4
    rw [show Int.toNat 5 = 5 from rfl, s5] at b5
    rw [show Int.toNat 8 = 8 from rfl, s8] at b8
    rw [show Int.toNat 9 = 9 from rfl, s9] at b9
    rw [show Int.toNat 10 = 10 from rfl, s10] at b10
    rw [show Int.toNat 11 = 11 from rfl, s11] at b11
    rw [show Int.toNat 12 = 12 from rfl, s12] at b12
    rw [show Int.toNat 13 = 13 from rfl, s13] at b13
    unfold manV
    omega
  · have e : o.1.toInt = 0 ∨ o.1.toInt = 1 ∨ o.1.toInt = 2 ∨ o.1.toInt = 3 ∨ o.1.toInt = 4 ∨ o.1.toInt = 5 ∨ o.1.toInt = 6 ∨ o.1.toInt = 7 ∨ o.1.toInt = 8 ∨ o.1.toInt = 9 ∨ o.1.toInt = 10 ∨ o.1.toInt = 11 ∨ o.1.toInt = 12 ∨ o.1.toInt = 13 := by omega
    unfold manV
    rcases e with e | e | e | e | e | e | e | e | e | e | e | e | e | e <;> rw [e] at a3 ⊢
    · rw [show Int.toNat 0 = 0 from rfl, s0] at a3; omega
    · rw [show Int.toNat 1 = 1 from rfl, s1] at a3; omega
    · rw [show Int.toNat 2 = 2 from rfl, s2] at a3; omega
    · rw [show Int.toNat 3 = 3 from rfl, s3] at a3; omega
    · rw [show Int.toNat 4 = 4 from rfl, s4] at a3; omega
    · rw [show Int.toNat 5 = 5 from rfl, s5] at a3; omega
    · rw [show Int.toNat 6 = 6 from rfl, s6] at a3; omega
    · rw [show Int.toNat 7 = 7 from rfl, s7] at a3; omega
    · rw [show Int.toNat 8 = 8 from rfl, s8] at a3; omega
    · rw [show Int.toNat 9 = 9 from rfl, s9] at a3; omega
    · rw [show Int.toNat 10 = 10 from rfl, s10] at a3; omega
    · rw [show Int.toNat 11 = 11 from rfl, s11] at a3; omega
    · rw [show Int.toNat 12 = 12 from rfl, s12] at a3; omega
    · rw [show Int.toNat 13 = 13 from rfl, s13] at a3; omega
/-- what is held of the men while they are read -/
def MI (S : ZS) (bb : Nat) (m : Int → Int) (r f : Int) : Prop := MBd m ∧ KI m (zI S 1 bb).toInt 0 ∧ KI m (zI S 2 bb).toInt 1 ∧ Zr m r f
theorem ki_up {k w s v : Int} (h : KI m k w) (h0 : m s = 0) (hw : w = 0 ∨ w = 1) (hv : v ≠ 6 + 8 * w) : KI (up m s v) k w := by
  intro q q1 q2 q3
  by_cases e : q = s
  · rw [e, up_s] at q3; exact absurd q3 hv
  · rw [up_n e] at q3
    obtain ⟨g1, g2, g3⟩ := h q q1 q2 q3
    have ne : k ≠ s := fun e2 => by rw [e2, h0] at g3; omega
    exact ⟨g1, g2, by rw [up_n ne]; exact g3⟩
theorem ki_new {s v w : Int} (hs : 0 ≤ s ∧ s < 64) (hv : v = 6 + 8 * w) : KI (up m s v) s w := fun q q1 q2 q3 => ⟨hs.1, hs.2, by rw [up_s]; exact hv⟩
theorem zr_up {r f v : Int} (h : Zr m r f) (hf : 0 ≤ f ∧ f < 8) (hr : 0 ≤ r) : Zr (up m (8 * r + f) v) r (f + 1) := fun s s0 hs => by
  rw [up_n (by omega)]
  exact h s s0 (by omega)
theorem zr_le {r f g : Int} (h : Zr m r f) (hg : f ≤ g) : Zr m r g := fun s s0 hs => h s s0 (by omega)
theorem rank_c {x2 : Int32} {r : Int} (hx : x2.toInt = 8 * r) (hr : 0 ≤ r ∧ r ≤ 7) : ∀ (n : Nat) (x3 x4 : Int32) (S : ZS) (p : Int) (m : Int → Int) (k : Nat), PJ S0 S x0 vr bb V p m → MI S bb m r x4.toInt → (x3.toInt = 0 ∨ x3.toInt = 1) → (0 ≤ x4.toInt ∧ x4.toInt ≤ 16) → p + (8 - x4.toInt) ≤ 980 → p ≤ 980 → 9 ≤ (k : Int) + x4.toInt → 1 ≤ k → f_X5_readRank_5 n x0 bb x2 x3 x4 S = some o → (∀ j, 3 ≤ j → zI o.2 j bb = zI S j bb) ∧ ((o.1.toInt = 1 ∧ ∃ q m2, rkV V x2.toInt k p x4.toInt x3.toInt m = some (q, m2) ∧ PJ S0 o.2 x0 vr bb V q m2 ∧ q ≤ p + (8 - x4.toInt) ∧ MI o.2 bb m2 r 8) ∨ (o.1.toInt = 0 ∧ rkV V x2.toInt k p x4.toInt x3.toInt m = none)) := by
  intro n
  induction n with
  | zero => intro x3 x4 S p m k _ _ _ _ _ _ _ _ hf; cases hf
  | succ n ih =>
    intro x3 x4 S p m k hJ hM h3 h4 hpb hpp hk hk1 hf
    have hf : f_X5_readRank_5s (f_X5_readRank_5 n) x0 bb x2 x3 x4 S = some o := hf
    obtain ⟨k2, rfl⟩ : ∃ k2, k = k2 + 1 := ⟨k - 1, by omega⟩
    obtain ⟨P0, k5, k0, pb⟩ := pj_P hJ
    have hV := pj_V hJ
    obtain ⟨-, -, -, ⟨-, hVb, -⟩, hp4, hp5, hm⟩ := id hJ
    obtain ⟨M1, M2, M3, M4⟩ := id hM
    have b0 := hVb p
    -- one step on
    have nxt : ∀ (S1 : ZS) (m1 : Int → Int) (t0 : Int32) (x6 : Int32), PJ S0 S1 x0 vr bb V p m1 → (∀ j, 3 ≤ j → zI S1 j bb = zI S j bb) → x4.toInt < 8 → 1 ≤ t0.toInt → t0.toInt ≤ 8 → (x6.toInt = 0 ∨ x6.toInt = 1) → MI S1 bb m1 r (x4.toInt + t0.toInt) → rkV V x2.toInt (k2 + 1) p x4.toInt x3.toInt m = rkV V x2.toInt k2 (p + 1) (x4.toInt + t0.toInt) x6.toInt m1 → f_X5_readRank_105 (f_X5_readRank_5 n) x0 bb x2 x6 t0 x4 S1 = some o → (∀ j, 3 ≤ j → zI o.2 j bb = zI S j bb) ∧ ((o.1.toInt = 1 ∧ ∃ q m2, rkV V x2.toInt (k2 + 1) p x4.toInt x3.toInt m = some (q, m2) ∧ PJ S0 o.2 x0 vr bb V q m2 ∧ q ≤ p + (8 - x4.toInt) ∧ MI o.2 bb m2 r 8) ∨ (o.1.toInt = 0 ∧ rkV V x2.toInt (k2 + 1) p x4.toInt x3.toInt m = none)) := by
      intro S1 m1 t0 x6 J1 i1 hlt ht1 ht2 h6 MI1 er hf
      have h41 : (zI S1 1 x0).toInt = p := J1.2.2.2.2.1
      unfold f_X5_readRank_105 at hf
      obtain ⟨v1, e1, hf⟩ := m_bndE hf
      obtain ⟨-, hf⟩ := m_chkE hf
      obtain ⟨v2, e2, hf⟩ := m_bndE hf
      obtain ⟨-, hf⟩ := m_chkE hf
      obtain ⟨S3, e3, hf⟩ := m_bndE hf
      have t1 : v1.toInt = x4.toInt + t0.toInt := ti_add e1 rfl rfl (by omega) (by omega)
      have t2 : v2.toInt = p + 1 := by
        have := ti_add (c := v2) (a := zI S1 1 x0) (b := 1) e2 rfl (show (1 : Int32).toInt = 1 from rfl) (by omega) (by omega)
        omega
      obtain ⟨J3, i3⟩ := pj_at (q := p + 1) J1 e3 t2 (by omega)
      have MI3 : MI S3 bb m1 r v1.toInt := by
        obtain ⟨c1, c2, c3, c4⟩ := MI1
        rw [t1]
        exact ⟨c1, by rw [i3]; exact c2, by rw [i3]; exact c3, c4⟩
      obtain ⟨g1, g2⟩ := ih x6 v1 S3 (p + 1) m1 k2 J3 MI3 h6 (by omega) (by omega) (by omega) (by omega) (by omega) hf
      refine ⟨fun j hj => (g1 j hj).trans ((i3 j).trans (i1 j hj)), ?_⟩
      rw [er, ← t1]
      rcases g2 with ⟨a1, q, m2, a2, a3, a4, a5⟩ | ⟨a1, a2⟩
      · exact Or.inl ⟨a1, q, m2, a2, a3, by omega, a5⟩
      · exact Or.inr ⟨a1, a2⟩
    have fin : ∀ (c d t0 : Int32), c.toInt = V p → (d.toInt = 0 ∨ d.toInt = 1) → (d.toInt = 1 ↔ 49 ≤ V p ∧ V p ≤ 56) → t0.toInt = manV (V p) → x4.toInt < 8 → f_X5_readRank_53 (f_X5_readRank_5 n) x0 bb x2 x3 x4 c d t0 S = some o → (∀ j, 3 ≤ j → zI o.2 j bb = zI S j bb) ∧ ((o.1.toInt = 1 ∧ ∃ q m2, rkV V x2.toInt (k2 + 1) p x4.toInt x3.toInt m = some (q, m2) ∧ PJ S0 o.2 x0 vr bb V q m2 ∧ q ≤ p + (8 - x4.toInt) ∧ MI o.2 bb m2 r 8) ∨ (o.1.toInt = 0 ∧ rkV V x2.toInt (k2 + 1) p x4.toInt x3.toInt m = none)) := by
      intro c d t0 hc hd hd1 ht hlt hf
      have mb := manV_b (V p)
      have z0 : (0 : Int32).toInt = 0 := rfl
      unfold f_X5_readRank_53 at hf
      rcases m_ifE hf with ⟨c1, hf⟩ | ⟨c1, hf⟩
      · replace c1 := ti_eqP (a := d) (b := (0 : Int32)) c1 rfl rfl
        have nd : ¬ (49 ≤ V p ∧ V p ≤ 56) := fun h => by have := hd1.2 h; omega
        rcases m_ifE hf with ⟨c2, hf⟩ | ⟨c2, hf⟩
        · replace c2 := ti_eqP (a := t0) (b := (0 : Int32)) c2 rfl rfl
          unfold f_X5_readRank_72 at hf
          obtain ⟨-, hf⟩ := m_chkE hf
          cases hf
          exact ⟨fun _ _ => rfl, Or.inr ⟨rfl, rk_no hlt nd (by omega)⟩⟩
        · replace c2 := ti_eqN (a := t0) (b := (0 : Int32)) c2 rfl rfl
          unfold f_X5_readRank_74 at hf
          rcases m_ifE hf with ⟨c3, hf⟩ | ⟨c3, hf⟩
          · obtain ⟨v1, e1, hf⟩ := m_bndE hf
            have t1 : v1.toInt = x2.toInt + x4.toInt := ti_add e1 rfl rfl (by omega) (by omega)
            obtain ⟨-, hf⟩ := m_chkE hf
            obtain ⟨⟨r9, S9⟩, h9, hf⟩ := m_calE hf
            dsimp only at hf
            obtain ⟨s9, m9, w6, n6, w14, n14, o9⟩ := p_put pb (by omega) h9
            have hz : m v1.toInt = 0 := M4 v1.toInt (by omega) (Or.inr ⟨by omega, by omega⟩)
            have m9' : mCb S9 bb = up m (x2.toInt + x4.toInt) (manV (V p)) := by rw [m9, hm, t1, ht]
            have n3 := (pj_ne hJ).2.2
            have J9 : PJ S0 S9 x0 vr bb V p (up m (x2.toInt + x4.toInt) (manV (V p))) := by
              obtain ⟨f1, f2, f3, f4, f5, f6, f7⟩ := hJ
              exact ⟨pfr_t f1 (pfr_b s9), f2, f3, f4, by rw [s9.2.2.1 1 x0 n3]; exact f5, f6, m9'⟩
            have hbb : x2.toInt + x4.toInt = 8 * r + x4.toInt := by omega
            have MI9 : MI S9 bb (up m (x2.toInt + x4.toInt) (manV (V p))) r (x4.toInt + 1) := by
              refine ⟨mbd_up M1 mb, ?_, ?_, by rw [hbb]; exact zr_up M4 (by omega) hr.1⟩
              · by_cases e6 : t0.toInt = 6
                · rw [w6 e6, t1]
                  exact ki_new (by omega) (by omega)
                · rw [n6 e6]
                  exact ki_up M2 (by rw [← t1]; exact hz) (Or.inl rfl) (by omega)
              · by_cases e14 : t0.toInt = 14
                · rw [w14 e14, t1]
                  exact ki_new (by omega) (by omega)
                · rw [n14 e14]
                  exact ki_up M3 (by rw [← t1]; exact hz) (Or.inr rfl) (by omega)
            unfold f_X5_readRank_89 at hf
            rcases m_ifE hf with ⟨c4, hf⟩ | ⟨c4, hf⟩
            · refine nxt S9 _ 1 d J9 (fun j hj => o9 j (by omega) (by omega)) hlt (by decide) (by decide) hd MI9 ?_ hf
              rw [rk_man hlt nd (by omega), c1]
              rfl
            · exact absurd (Int32.toInt_inj.1 (c1.trans z0.symm)) c4
          · exact absurd (Int32.toInt_inj.1 (c1.trans z0.symm)) c3
      · replace c1 := ti_eqN (a := d) (b := (0 : Int32)) c1 rfl rfl
        have hdg := hd1.1 (by omega)
        rcases m_ifE hf with ⟨c2, hf⟩ | ⟨c2, hf⟩
        · replace c2 := ti_eqP (a := x3) (b := (0 : Int32)) c2 rfl rfl
          unfold f_X5_readRank_74 at hf
          rcases m_ifE hf with ⟨c3, hf⟩ | ⟨c3, hf⟩
          · rw [c3] at c1
            exact absurd rfl c1
          · unfold f_X5_readRank_89 at hf
            rcases m_ifE hf with ⟨c4, hf⟩ | ⟨c4, hf⟩
            · rw [c4] at c1
              exact absurd rfl c1
            · obtain ⟨v1, e1, hf⟩ := m_bndE hf
              have t1 : v1.toInt = V p - 48 := by
                have := ti_sub (c := v1) (a := c) (b := 48) e1 rfl (show (48 : Int32).toInt = 48 from rfl) (by omega) (by omega)
                omega
              refine nxt S m v1 d hJ (fun _ _ => rfl) hlt (by omega) (by omega) hd ⟨M1, M2, M3, zr_le M4 (by omega)⟩ ?_ hf
              rw [rk_dg hlt hdg c2, t1, show d.toInt = 1 by omega]
        · replace c2 := ti_eqN (a := x3) (b := (0 : Int32)) c2 rfl rfl
          unfold f_X5_readRank_72 at hf
          obtain ⟨-, hf⟩ := m_chkE hf
          cases hf
          exact ⟨fun _ _ => rfl, Or.inr ⟨rfl, rk_dd hlt hdg c2⟩⟩
    unfold f_X5_readRank_5s at hf
    rcases m_ifE hf with ⟨c1, hf⟩ | ⟨c1, hf⟩
    · skip
      replace c1 := ti_leP (a := (8 : Int32)) (b := x4) c1 (show (8 : Int32).toInt = 8 from rfl) rfl
      rcases m_ifE hf with ⟨c2, hf⟩ | ⟨c2, hf⟩
      · skip
        replace c2 := ti_eqP (a := x4) (b := (8 : Int32)) c2 rfl (show (8 : Int32).toInt = 8 from rfl)
        unfold f_X5_readRank_136 at hf
        obtain ⟨-, hf⟩ := m_chkE hf
        cases hf
        try dsimp only
        rw [c2] at M4
        exact ⟨fun _ _ => rfl, Or.inl ⟨rfl, p, m, rk_end c2, hJ, by omega, ⟨M1, M2, M3, M4⟩⟩⟩
      · skip
        replace c2 := ti_eqN (a := x4) (b := (8 : Int32)) c2 rfl (show (8 : Int32).toInt = 8 from rfl)
        unfold f_X5_readRank_136 at hf
        obtain ⟨-, hf⟩ := m_chkE hf
        cases hf
        try dsimp only
        exact ⟨fun _ _ => rfl, Or.inr ⟨rfl, rk_over (by omega)⟩⟩
    · skip
      replace c1 := ti_leN (a := (8 : Int32)) (b := x4) c1 (show (8 : Int32).toInt = 8 from rfl) rfl
      obtain ⟨-, hf⟩ := m_chkE hf
      replace hf := m_calY hf P0
      obtain ⟨-, hf⟩ := m_chkE hf
      obtain ⟨-, hf⟩ := m_chkE hf
      obtain ⟨r2, h_r2, hf⟩ := m_calR hf (fun _ h => ro_X6_at h)
      dsimp only at hf
      have p_r2 := pc_X6_at h_r2
      dsimp only at p_r2
      rw [hV, hp4] at p_r2
      obtain ⟨r3, h_r3, hf⟩ := m_calR hf (fun _ h => ro_X11_isRank h)
      dsimp only at hf
      have p_r3 := pc_X11_isRank h_r3
      dsimp only at p_r3
      rw [p_r2] at p_r3
      obtain ⟨r4, h_r4, hf⟩ := m_calR hf (fun _ h => ro_X11_isLetter h)
      dsimp only at hf
      have p_r4 := pc_X11_isLetter h_r4
      dsimp only at p_r4
      rw [p_r2] at p_r4
      rcases m_ifE hf with ⟨c3, hf⟩ | ⟨c3, hf⟩
      · skip
        replace c3 := ti_eqP (a := r4) (b := (0 : Int32)) c3 rfl (show (0 : Int32).toInt = 0 from rfl)
        refine fin r2 r3 0 p_r2 p_r3.1 p_r3.2 ?_ (by omega) hf
        have : ¬ manV (V p) ≠ 0 := fun h => by have := p_r4.2.2 (manV_L h); omega
        show (0 : Int) = _
        omega
      · skip
        replace c3 := ti_eqN (a := r4) (b := (0 : Int32)) c3 rfl (show (0 : Int32).toInt = 0 from rfl)
        obtain ⟨-, hf⟩ := m_chkE hf
        obtain ⟨r5, h_r5, hf⟩ := m_calR hf (fun _ h => ro_J0_indexOf_0f7a4 h)
        dsimp only at hf
        obtain ⟨q5, b51, b52⟩ := p_man (by omega) (by rw [p_r2]; exact p_r4.2.1 (by omega)) h_r5
        dsimp only at q5 b51 b52
        obtain ⟨v6, e_v6, hf⟩ := m_bndE hf
        have t_v6 : v6.toInt = r5.toInt + 1 := ti_add e_v6 rfl (show (1 : Int32).toInt = 1 from rfl) (by omega) (by omega)
        exact fin r2 r3 v6 p_r2 p_r3.1 p_r3.2 (by rw [t_v6, q5, p_r2]) (by omega) hf
end PJS
/-- a piece of reading that may fail, one behind the other -/
def bnd2 {α β : Type} (x : Option α) (k : α → Option β) : Option β := match x with
  | none => none
  | some a => k a
/-- the men of a position, as the class reads them -/
def mhV (V : Int → Int) : Nat → Int → (Int → Int) → Option (Int × (Int → Int))
  | 0, p, m => some (p, m)
  | r + 1, p, m => if r = 7 then bnd2 (rkV V (8 * (r : Int)) 9 p 0 0 m) (fun z => mhV V r z.1 z.2) else if V p = 47 then bnd2 (rkV V (8 * (r : Int)) 9 (p + 1) 0 0 m) (fun z => mhV V r z.1 z.2) else none
/-- and as the reference reads them, with the blank behind -/
def mrV (V : Int → Int) : Nat → Int → (Int → Int) → Option (Int × (Int → Int))
  | 0, p, m => some (p, m)
  | r + 1, p, m => bnd2 (rkV V (8 * (r : Int)) 9 p 0 0 m) (fun z => if V z.1 = (if r = 0 then 32 else 47) then mrV V r (z.1 + 1) z.2 else none)
def spV (V : Int → Int) (z : Int × (Int → Int)) : Option (Int × (Int → Int)) := if V z.1 = 32 then some (z.1 + 1, z.2) else none
theorem mh_mr1 {V : Int → Int} : ∀ (r : Nat) (p : Int) (m : Int → Int), r ≤ 6 → bnd2 (mhV V (r + 1) p m) (spV V) = if V p = 47 then mrV V (r + 1) (p + 1) m else none
  | 0, p, m, _ => by
    show bnd2 (if (0 : Nat) = 7 then _ else if V p = 47 then bnd2 (rkV V (8 * ((0 : Nat) : Int)) 9 (p + 1) 0 0 m) (fun z => mhV V 0 z.1 z.2) else none) (spV V) = _
    rw [if_neg (by decide)]
    by_cases c : V p = 47
    · rw [if_pos c, if_pos c]
      show bnd2 (bnd2 (rkV V (8 * ((0 : Nat) : Int)) 9 (p + 1) 0 0 m) (fun z => mhV V 0 z.1 z.2)) (spV V) = bnd2 (rkV V (8 * ((0 : Nat) : Int)) 9 (p + 1) 0 0 m) (fun z => if V z.1 = (if (0 : Nat) = 0 then 32 else 47) then mrV V 0 (z.1 + 1) z.2 else none)
      cases rkV V (8 * ((0 : Nat) : Int)) 9 (p + 1) 0 0 m with
      | none => rfl
      | some z => rfl
    · rw [if_neg c, if_neg c]
      rfl
  | r + 1, p, m, h => by
    have ih := mh_mr1 (V := V) r
    show bnd2 (if (r + 1 : Nat) = 7 then _ else if V p = 47 then bnd2 (rkV V (8 * ((r + 1 : Nat) : Int)) 9 (p + 1) 0 0 m) (fun z => mhV V (r + 1) z.1 z.2) else none) (spV V) = _
    rw [if_neg (by omega)]
    by_cases c : V p = 47
    · rw [if_pos c, if_pos c]
      show bnd2 (bnd2 (rkV V (8 * ((r + 1 : Nat) : Int)) 9 (p + 1) 0 0 m) (fun z => mhV V (r + 1) z.1 z.2)) (spV V) = bnd2 (rkV V (8 * ((r + 1 : Nat) : Int)) 9 (p + 1) 0 0 m) (fun z => if V z.1 = (if (r + 1 : Nat) = 0 then 32 else 47) then mrV V (r + 1) (z.1 + 1) z.2 else none)
      cases rkV V (8 * ((r + 1 : Nat) : Int)) 9 (p + 1) 0 0 m with
      | none => rfl
      | some z =>
        show bnd2 (mhV V (r + 1) z.1 z.2) (spV V) = if V z.1 = (if (r + 1 : Nat) = 0 then 32 else 47) then mrV V (r + 1) (z.1 + 1) z.2 else none
        rw [if_neg (show ¬ ((r + 1 : Nat) = 0) by omega)]
        exact ih z.1 z.2 (by omega)
    · rw [if_neg c, if_neg c]
      rfl
theorem mh_mr {V : Int → Int} {p : Int} {m : Int → Int} : bnd2 (mhV V 8 p m) (spV V) = mrV V 8 p m := by
  show bnd2 (if (7 : Nat) = 7 then bnd2 (rkV V (8 * ((7 : Nat) : Int)) 9 p 0 0 m) (fun z => mhV V 7 z.1 z.2) else _) (spV V) = bnd2 (rkV V (8 * ((7 : Nat) : Int)) 9 p 0 0 m) (fun z => if V z.1 = (if (7 : Nat) = 0 then 32 else 47) then mrV V 7 (z.1 + 1) z.2 else none)
  rw [if_pos rfl]
  cases rkV V (8 * ((7 : Nat) : Int)) 9 p 0 0 m with
  | none => rfl
  | some z =>
    show bnd2 (mhV V 7 z.1 z.2) (spV V) = if V z.1 = (if (7 : Nat) = 0 then 32 else 47) then mrV V 7 (z.1 + 1) z.2 else none
    rw [if_neg (show ¬ ((7 : Nat) = 0) by decide)]
    exact mh_mr1 6 z.1 z.2 (by decide)
section PJM
variable {S0 S S' : ZS} {x0 vr bb : Nat} {V : Int → Int} {p : Int} {m : Int → Int} {o : Int32 × ZS} {x1 x2 : Int32}
theorem zr_dn {r : Int} (h : Zr m r 8) : Zr m (r - 1) 0 := fun s s0 hs => h s s0 (by omega)
theorem men_c : ∀ (n : Nat) (x2 : Int32) (S : ZS) (p : Int) (m : Int → Int) (r : Nat), x2.toInt = (r : Int) - 1 → r ≤ 8 → PJ S0 S x0 vr bb V p m → MI S bb m (x2.toInt) 0 → p + 9 * (r : Int) ≤ 900 → f_X5_readMen_3 n x0 bb x2 S = some o → (∀ j, 3 ≤ j → zI o.2 j bb = zI S j bb) ∧ ((o.1.toInt = 1 ∧ ∃ q m2, mhV V r p m = some (q, m2) ∧ PJ S0 o.2 x0 vr bb V q m2 ∧ q ≤ p + 9 * (r : Int) ∧ MI o.2 bb m2 (-1) 0) ∨ (o.1.toInt = 0 ∧ mhV V r p m = none)) := by
  intro n
  induction n with
  | zero => intro x2 S p m r _ _ _ _ _ hf; cases hf
  | succ n ih =>
    intro x2 S p m r hx hr hJ hM hpb hf
    have hf : f_X5_readMen_3s (f_X5_readMen_3 n) x0 bb x2 S = some o := hf
    have z0 : (0 : Int32).toInt = 0 := rfl
    have z47 : (47 : Int32).toInt = 47 := rfl
    have stp : ∀ (S1 : ZS) (q0 : Int) (r1 : Nat), r = r1 + 1 → PJ S0 S1 x0 vr bb V q0 m → (∀ j, zI S1 j bb = zI S j bb) → q0 ≤ p + 1 → p ≤ q0 → mhV V r p m = bnd2 (rkV V (8 * (r1 : Int)) 9 q0 0 0 m) (fun z => mhV V r1 z.1 z.2) → f_X5_readMen_22 (f_X5_readMen_3 n) x0 bb x2 S1 = some o → (∀ j, 3 ≤ j → zI o.2 j bb = zI S j bb) ∧ ((o.1.toInt = 1 ∧ ∃ q m2, mhV V r p m = some (q, m2) ∧ PJ S0 o.2 x0 vr bb V q m2 ∧ q ≤ p + 9 * (r : Int) ∧ MI o.2 bb m2 (-1) 0) ∨ (o.1.toInt = 0 ∧ mhV V r p m = none)) := by
      intro S1 q0 r1 er J1 i1 hq hq2 eh hf
      have p0 : 0 ≤ p := hJ.2.2.2.2.2.1.1
      unfold f_X5_readMen_22 at hf
      obtain ⟨v1, e1, hf⟩ := m_bndE hf
      have t1 : v1.toInt = 8 * x2.toInt := ti_mul e1 (show (8 : Int32).toInt = 8 from rfl) rfl (by omega) (by omega)
      obtain ⟨-, hf⟩ := m_chkE hf
      obtain ⟨⟨r2, S2⟩, h2, hf⟩ := m_calE hf
      dsimp only at hf
      have M1 : MI S1 bb m (x2.toInt) (0 : Int32).toInt := by
        obtain ⟨c1, c2, c3, c4⟩ := hM
        exact ⟨c1, by rw [i1]; exact c2, by rw [i1]; exact c3, c4⟩
      obtain ⟨g1, g2⟩ := rank_c (r := x2.toInt) t1 (by omega) mFuel 0 0 S1 q0 m 9 J1 M1 (Or.inl rfl) (by decide) (by omega) (by omega) (by decide) (by decide) h2
      dsimp only at g1 g2
      have ev : v1.toInt = 8 * (r1 : Int) := by omega
      rw [ev, z0] at g2
      rcases m_ifE hf with ⟨c1, hf⟩ | ⟨c1, hf⟩
      · replace c1 := ti_eqP (a := r2) (b := (0 : Int32)) c1 rfl rfl
        unfold f_X5_readMen_34 at hf
        obtain ⟨-, hf⟩ := m_chkE hf
        cases hf
        refine ⟨fun j hj => (g1 j hj).trans (i1 j), Or.inr ⟨rfl, ?_⟩⟩
        rcases g2 with ⟨a1, -⟩ | ⟨-, a2⟩
        · omega
        · rw [eh, a2]; rfl
      · replace c1 := ti_eqN (a := r2) (b := (0 : Int32)) c1 rfl rfl
        rcases g2 with ⟨a1, q, m2, a2, a3, a4, a5⟩ | ⟨a1, -⟩
        · obtain ⟨v3, e3, hf⟩ := m_bndE hf
          have t3 : v3.toInt = x2.toInt - 1 := by
            have := ti_add (c := v3) (a := x2) (b := -1) e3 rfl (show (-1 : Int32).toInt = -1 from rfl) (by omega) (by omega)
            omega
          have M2 : MI S2 bb m2 v3.toInt 0 := by
            obtain ⟨c1', c2', c3', c4'⟩ := a5
            rw [t3]
            exact ⟨c1', c2', c3', zr_dn c4'⟩
          obtain ⟨k1, k2⟩ := ih v3 S2 q m2 r1 (by omega) (by omega) a3 M2 (by omega) hf
          refine ⟨fun j hj => (k1 j hj).trans ((g1 j hj).trans (i1 j)), ?_⟩
          have e9 : mhV V r p m = mhV V r1 q m2 := by rw [eh, a2]; rfl
          rw [e9]
          rcases k2 with ⟨b1, q9, m9, b2, b3, b4, b5⟩ | ⟨b1, b2⟩
          · exact Or.inl ⟨b1, q9, m9, b2, b3, by omega, b5⟩
          · exact Or.inr ⟨b1, b2⟩
        · omega
    unfold f_X5_readMen_3s at hf
    rcases m_ifE hf with ⟨c1, hf⟩ | ⟨c1, hf⟩
    · skip
      replace c1 := ti_ltP (a := x2) (b := (0 : Int32)) c1 rfl (show (0 : Int32).toInt = 0 from rfl)
      obtain ⟨-, hf⟩ := m_chkE hf
      cases hf
      try dsimp only
      have e0 : r = 0 := by omega
      subst e0
      refine ⟨fun _ _ => rfl, Or.inl ⟨rfl, p, m, rfl, hJ, by omega, ?_⟩⟩
      rw [show x2.toInt = -1 by omega] at hM
      exact hM
    · skip
      replace c1 := ti_ltN (a := x2) (b := (0 : Int32)) c1 rfl (show (0 : Int32).toInt = 0 from rfl)
      rcases m_ifE hf with ⟨c2, hf⟩ | ⟨c2, hf⟩
      · skip
        replace c2 := ti_leP (a := (7 : Int32)) (b := x2) c2 (show (7 : Int32).toInt = 7 from rfl) rfl
        refine stp S p 7 (by omega) hJ (fun _ => rfl) (by omega) (by omega) ?_ hf
        rw [show r = 7 + 1 by omega]
        rfl
      · skip
        replace c2 := ti_leN (a := (7 : Int32)) (b := x2) c2 (show (7 : Int32).toInt = 7 from rfl) rfl
        obtain ⟨-, hf⟩ := m_chkE hf
        obtain ⟨⟨r1, S1c⟩, h_r1, hf⟩ := m_calE hf
        dsimp only at hf
        obtain ⟨i1, g1⟩ := p_skipP hJ (by omega) h_r1
        dsimp only at i1 g1
        obtain ⟨rq, er⟩ : ∃ rq, r = rq + 1 := ⟨r - 1, by omega⟩
        have eh : mhV V r p m = if V p = 47 then bnd2 (rkV V (8 * (rq : Int)) 9 (p + 1) 0 0 m) (fun z => mhV V rq z.1 z.2) else none := by
          rw [er]
          show (if rq = 7 then _ else if V p = 47 then bnd2 (rkV V (8 * (rq : Int)) 9 (p + 1) 0 0 m) (fun z => mhV V rq z.1 z.2) else none) = _
          rw [if_neg (by omega)]
        rcases m_ifE hf with ⟨c3, hf⟩ | ⟨c3, hf⟩
        · skip
          replace c3 := ti_eqP (a := r1) (b := (0 : Int32)) c3 rfl (show (0 : Int32).toInt = 0 from rfl)
          unfold f_X5_readMen_34 at hf
          obtain ⟨-, hf⟩ := m_chkE hf
          cases hf
          try dsimp only
          rcases g1 with ⟨a1, -⟩ | ⟨a1, a2, a3⟩
          · omega
          · refine ⟨fun j _ => i1 j, Or.inr ⟨rfl, ?_⟩⟩
            rw [eh, if_neg (by omega)]
        · skip
          replace c3 := ti_eqN (a := r1) (b := (0 : Int32)) c3 rfl (show (0 : Int32).toInt = 0 from rfl)
          rcases g1 with ⟨a1, a2, a3⟩ | ⟨a1, -⟩
          · refine stp S1c (p + 1) rq er a3 i1 (by omega) (by omega) ?_ hf
            rw [eh, if_pos (by omega)]
          · omega
end PJM
