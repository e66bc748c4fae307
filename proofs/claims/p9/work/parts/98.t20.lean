/-- only ints of one object change -/
def SXf (S S' : ZS) (x : Nat) : Prop := zK S' = zK S ∧ zP S' = zP S ∧ zN S' = zN S ∧ zA S' = zA S ∧ zB S' = zB S ∧ (∀ j a, a ≠ x → zI S' j a = zI S j a)
section SXS
variable {S S1 S2 S' : ZS} {x b : Nat}
theorem sx_0 : SXf S S x := ⟨rfl, rfl, rfl, rfl, rfl, fun _ _ _ => rfl⟩
theorem sx_t (h : SXf S S1 x) (g : SXf S1 S2 x) : SXf S S2 x := ⟨g.1.trans h.1, g.2.1.trans h.2.1, g.2.2.1.trans h.2.2.1, g.2.2.2.1.trans h.2.2.2.1, g.2.2.2.2.1.trans h.2.2.2.2.1, fun j a ha => (g.2.2.2.2.2 j a ha).trans (h.2.2.2.2.2 j a ha)⟩
theorem sx_I {j : Nat} {v : Int32} (e : S' = zsI S j x v) : SXf S S' x := by
  subst e
  exact ⟨rfl, rfl, rfl, rfl, rfl, fun _ _ ha => zI_b ha⟩
theorem sx_rw (h : SXf S S' x) (hb : b ≠ x) : rwC S' b = rwC S b := by
  funext i
  unfold rwC
  rw [h.2.2.2.2.2 1 b hb, h.2.1, h.2.2.2.1]
theorem sx_rwl {w : List Int} (h : SXf S S' x) (hb : b ≠ x) (hw : RWL S b w) : RWL S' b w := ⟨by rw [h.2.2.2.2.2 1 b hb]; exact hw.1, fun i => by rw [sx_rw h hb]; exact hw.2 i⟩
theorem sx_mB (h : SXf S S' x) : mCb S' b = mCb S b := mB_e (by rw [h.2.1]) (fun c _ => by rw [h.2.2.2.1])
end SXS
section PAP
variable {x0 rw : Nat} {w : List Int} {S : ZS} {o : Int32 × ZS} {x1 x2 x3 : Int32}
theorem pa_94 (hf : f_X8_parseApart_94 x2 x3 S = some o) : o.2 = S ∧ (o.1.toInt = 0 ∨ o.1.toInt = 1) ∧ (o.1.toInt = 1 ↔ x3.toInt = x2.toInt) := by
  unfold f_X8_parseApart_94 at hf
  rcases m_ifE hf with ⟨c1, hf⟩ | ⟨c1, hf⟩
  · skip
    replace c1 := ti_eqP (a := x3) (b := x2) c1 rfl rfl
    unfold f_X8_parseApart_104 at hf
    obtain ⟨-, hf⟩ := m_chkE hf
    cases hf
    try dsimp only
    exact ⟨rfl, Or.inr rfl, fun _ => c1, fun _ => rfl⟩
  · skip
    replace c1 := ti_eqN (a := x3) (b := x2) c1 rfl rfl
    unfold f_X8_parseApart_104 at hf
    obtain ⟨-, hf⟩ := m_chkE hf
    cases hf
    try dsimp only
    exact ⟨rfl, Or.inl rfl, fun h => absurd h (by decide), fun h => absurd h c1⟩
theorem pa_49 (hP : zP S 1 x0 = some rw) (hne : rw ≠ x0) (hw : RWL S rw w) (hb : ∀ i, 0 ≤ wA w i ∧ wA w i ≤ 127) (h5 : (zI S 5 x0).toInt = -1) (h3 : 0 ≤ x3.toInt ∧ x3.toInt ≤ 100) (hf : f_X8_parseApart_49 x0 x2 x3 S = some o) : SXf S o.2 x0 ∧ (∀ j, j ≠ 5 → zI o.2 j x0 = zI S j x0) ∧ (zI o.2 5 x0).toInt = paR w (zI S 3 x0).toInt x3.toInt x2.toInt ∧ (o.1.toInt = 0 ∨ o.1.toInt = 1) ∧ (o.1.toInt = 1 ↔ paJ w (zI S 3 x0).toInt x3.toInt x2.toInt = x2.toInt) := by
  have no : ¬ (x3.toInt < x2.toInt ∧ (zI S 3 x0).toInt ≠ 1 ∧ 49 ≤ wA w x3.toInt ∧ wA w x3.toInt ≤ 56) → f_X8_parseApart_94 x2 x3 S = some o → SXf S o.2 x0 ∧ (∀ j, j ≠ 5 → zI o.2 j x0 = zI S j x0) ∧ (zI o.2 5 x0).toInt = paR w (zI S 3 x0).toInt x3.toInt x2.toInt ∧ (o.1.toInt = 0 ∨ o.1.toInt = 1) ∧ (o.1.toInt = 1 ↔ paJ w (zI S 3 x0).toInt x3.toInt x2.toInt = x2.toInt) := by
    intro hn hf
    obtain ⟨e, g1, g2⟩ := pa_94 hf
    have eR : paR w (zI S 3 x0).toInt x3.toInt x2.toInt = -1 := if_neg hn
    have eJ : paJ w (zI S 3 x0).toInt x3.toInt x2.toInt = x3.toInt := if_neg hn
    rw [e, eR, eJ]
    exact ⟨sx_0, fun _ _ => rfl, h5, g1, g2⟩
  unfold f_X8_parseApart_49 at hf
  rcases m_ifE hf with ⟨c1, hf⟩ | ⟨c1, hf⟩
  · skip
    replace c1 := ti_leP (a := x2) (b := x3) c1 rfl rfl
    exact no (fun h => by omega) hf
  · skip
    replace c1 := ti_leN (a := x2) (b := x3) c1 rfl rfl
    obtain ⟨-, hf⟩ := m_chkE hf
    rcases m_ifE hf with ⟨c2, hf⟩ | ⟨c2, hf⟩
    · skip
      replace c2 := ti_eqP (a := (zI S 3 x0)) (b := (1 : Int32)) c2 rfl (show (1 : Int32).toInt = 1 from rfl)
      exact no (fun h => h.2.1 c2) hf
    · skip
      replace c2 := ti_eqN (a := (zI S 3 x0)) (b := (1 : Int32)) c2 rfl (show (1 : Int32).toInt = 1 from rfl)
      obtain ⟨-, hf⟩ := m_chkE hf
      replace hf := m_calY hf hP
      obtain ⟨-, hf⟩ := m_chkE hf
      obtain ⟨r2, h_r2, hf⟩ := m_calR hf (fun _ h => ro_X6_at h)
      dsimp only at hf
      have p_r2 := pc_X6_at h_r2
      dsimp only at p_r2
      rw [hw.2] at p_r2
      have b2 := hb x3.toInt
      obtain ⟨r3, h_r3, hf⟩ := m_calR hf (fun _ h => ro_X11_isRank h)
      dsimp only at hf
      have p_r3 := pc_X11_isRank h_r3
      dsimp only at p_r3
      rcases m_ifE hf with ⟨c3, hf⟩ | ⟨c3, hf⟩
      · skip
        replace c3 := ti_eqP (a := r3) (b := (0 : Int32)) c3 rfl (show (0 : Int32).toInt = 0 from rfl)
        exact no (fun h => by have := p_r3.2.2 (by omega); omega) hf
      · skip
        replace c3 := ti_eqN (a := r3) (b := (0 : Int32)) c3 rfl (show (0 : Int32).toInt = 0 from rfl)
        obtain ⟨-, hf⟩ := m_chkE hf
        replace hf := m_calY hf hP
        obtain ⟨-, hf⟩ := m_chkE hf
        obtain ⟨r5, h_r5, hf⟩ := m_calR hf (fun _ h => ro_X6_at h)
        dsimp only at hf
        have p_r5 := pc_X6_at h_r5
        dsimp only at p_r5
        rw [hw.2] at p_r5
        obtain ⟨v6, e_v6, hf⟩ := m_bndE hf
        have t_v6 : v6.toInt = r5.toInt - 49 := ti_sub e_v6 rfl (show (49 : Int32).toInt = 49 from rfl) (by omega) (by omega)
        obtain ⟨-, hf⟩ := m_chkE hf
        obtain ⟨S7, e_S7, hf⟩ := m_bndE hf
        obtain ⟨v8, e_v8, hf⟩ := m_bndE hf
        have t_v8 : v8.toInt = x3.toInt + 1 := ti_add e_v8 rfl (show (1 : Int32).toInt = 1 from rfl) (by omega) (by omega)
        obtain ⟨e, g1, g2⟩ := pa_94 hf
        have q3 := p_r3.2.1 (by omega)
        have hy : x3.toInt < x2.toInt ∧ (zI S 3 x0).toInt ≠ 1 ∧ 49 ≤ wA w x3.toInt ∧ wA w x3.toInt ≤ 56 := ⟨by omega, c2, by omega, by omega⟩
        have eR : paR w (zI S 3 x0).toInt x3.toInt x2.toInt = wA w x3.toInt - 49 := if_pos hy
        have eJ : paJ w (zI S 3 x0).toInt x3.toInt x2.toInt = x3.toInt + 1 := if_pos hy
        rw [e, eR, eJ]
        refine ⟨sx_I e_S7, fun j hj => by rw [e_S7, zI_j hj], ?_, g1, ?_⟩
        · rw [e_S7, zI_self]; omega
        · rw [g2, t_v8]
theorem p_apart (hP : zP S 1 x0 = some rw) (hne : rw ≠ x0) (hw : RWL S rw w) (hb : ∀ i, 0 ≤ wA w i ∧ wA w i ≤ 127) (h1 : 0 ≤ x1.toInt ∧ x1.toInt ≤ 50) (hf : f_X8_parseApart x0 x1 x2 S = some o) : SXf S o.2 x0 ∧ (∀ j, j ≠ 4 → j ≠ 5 → zI o.2 j x0 = zI S j x0) ∧ (zI o.2 4 x0).toInt = paF w x1.toInt x2.toInt ∧ (zI o.2 5 x0).toInt = paR w (zI S 3 x0).toInt (paI w x1.toInt x2.toInt) x2.toInt ∧ (o.1.toInt = 0 ∨ o.1.toInt = 1) ∧ (o.1.toInt = 1 ↔ paJ w (zI S 3 x0).toInt (paI w x1.toInt x2.toInt) x2.toInt = x2.toInt) := by
  have hf : f_X8_parseApart_0 x0 x1 x2 S = some o := hf
  have z1 : (-1 : Int32).toInt = -1 := rfl
  unfold f_X8_parseApart_0 at hf
  obtain ⟨-, hf⟩ := m_chkE hf
  obtain ⟨S1, e_S1, hf⟩ := m_bndE hf
  obtain ⟨-, hf⟩ := m_chkE hf
  obtain ⟨S2, e_S2, hf⟩ := m_bndE hf
  have s2 : SXf S S2 x0 := sx_t (sx_I e_S1) (sx_I e_S2)
  have P2 : zP S2 1 x0 = some rw := by rw [s2.2.1]; exact hP
  have w2 := sx_rwl s2 hne hw
  have i2 : ∀ j, j ≠ 4 → j ≠ 5 → zI S2 j x0 = zI S j x0 := fun j a b => by rw [e_S2, zI_j b, e_S1, zI_j a]
  have i4 : (zI S2 4 x0).toInt = -1 := by rw [e_S2, zI_j (by decide), e_S1, zI_self]; rfl
  have i5 : (zI S2 5 x0).toInt = -1 := by rw [e_S2, zI_self]; rfl
  have i3 : zI S2 3 x0 = zI S 3 x0 := i2 3 (by decide) (by decide)
  have no : ¬ (x1.toInt < x2.toInt ∧ 97 ≤ wA w x1.toInt ∧ wA w x1.toInt ≤ 104) → f_X8_parseApart_49 x0 x2 x1 S2 = some o → SXf S o.2 x0 ∧ (∀ j, j ≠ 4 → j ≠ 5 → zI o.2 j x0 = zI S j x0) ∧ (zI o.2 4 x0).toInt = paF w x1.toInt x2.toInt ∧ (zI o.2 5 x0).toInt = paR w (zI S 3 x0).toInt (paI w x1.toInt x2.toInt) x2.toInt ∧ (o.1.toInt = 0 ∨ o.1.toInt = 1) ∧ (o.1.toInt = 1 ↔ paJ w (zI S 3 x0).toInt (paI w x1.toInt x2.toInt) x2.toInt = x2.toInt) := by
    intro hn hf
    obtain ⟨g1, g2, g3, g4, g5⟩ := pa_49 P2 hne w2 hb i5 (by omega) hf
    have eF : paF w x1.toInt x2.toInt = -1 := if_neg hn
    have eI : paI w x1.toInt x2.toInt = x1.toInt := if_neg hn
    rw [eF, eI]
    rw [i3] at g3 g5
    exact ⟨sx_t s2 g1, fun j a b => (g2 j b).trans (i2 j a b), by rw [g2 4 (by decide)]; exact i4, g3, g4, g5⟩
  rcases m_ifE hf with ⟨c1, hf⟩ | ⟨c1, hf⟩
  · skip
    replace c1 := ti_leP (a := x2) (b := x1) c1 rfl rfl
    exact no (fun h => by omega) hf
  · skip
    replace c1 := ti_leN (a := x2) (b := x1) c1 rfl rfl
    obtain ⟨-, hf⟩ := m_chkE hf
    replace hf := m_calY hf P2
    obtain ⟨-, hf⟩ := m_chkE hf
    obtain ⟨r4, h_r4, hf⟩ := m_calR hf (fun _ h => ro_X6_at h)
    dsimp only at hf
    have p_r4 := pc_X6_at h_r4
    dsimp only at p_r4
    rw [w2.2] at p_r4
    have b2 := hb x1.toInt
    obtain ⟨r5, h_r5, hf⟩ := m_calR hf (fun _ h => ro_X11_isFile h)
    dsimp only at hf
    have p_r5 := pc_X11_isFile h_r5
    dsimp only at p_r5
    rcases m_ifE hf with ⟨c2, hf⟩ | ⟨c2, hf⟩
    · skip
      replace c2 := ti_eqP (a := r5) (b := (0 : Int32)) c2 rfl (show (0 : Int32).toInt = 0 from rfl)
      exact no (fun h => by have := p_r5.2.2 (by omega); omega) hf
    · skip
      replace c2 := ti_eqN (a := r5) (b := (0 : Int32)) c2 rfl (show (0 : Int32).toInt = 0 from rfl)
      obtain ⟨-, hf⟩ := m_chkE hf
      replace hf := m_calY hf P2
      obtain ⟨-, hf⟩ := m_chkE hf
      obtain ⟨r7, h_r7, hf⟩ := m_calR hf (fun _ h => ro_X6_at h)
      dsimp only at hf
      have p_r7 := pc_X6_at h_r7
      dsimp only at p_r7
      rw [w2.2] at p_r7
      obtain ⟨v8, e_v8, hf⟩ := m_bndE hf
      have t_v8 : v8.toInt = r7.toInt - 97 := ti_sub e_v8 rfl (show (97 : Int32).toInt = 97 from rfl) (by omega) (by omega)
      obtain ⟨-, hf⟩ := m_chkE hf
      obtain ⟨S9, e_S9, hf⟩ := m_bndE hf
      obtain ⟨v10, e_v10, hf⟩ := m_bndE hf
      have t_v10 : v10.toInt = x1.toInt + 1 := ti_add e_v10 rfl (show (1 : Int32).toInt = 1 from rfl) (by omega) (by omega)
      have q5 := p_r5.2.1 (by omega)
      have hy : x1.toInt < x2.toInt ∧ 97 ≤ wA w x1.toInt ∧ wA w x1.toInt ≤ 104 := ⟨by omega, by omega, by omega⟩
      have s9 : SXf S S9 x0 := sx_t s2 (sx_I e_S9)
      have o9 : ∀ j, j ≠ 4 → zI S9 j x0 = zI S2 j x0 := fun j hj => by rw [e_S9, zI_j hj]
      obtain ⟨g1, g2, g3, g4, g5⟩ := pa_49 (by rw [s9.2.1]; exact hP) hne (sx_rwl s9 hne hw) hb (by rw [o9 5 (by decide)]; exact i5) (by omega) hf
      have eF : paF w x1.toInt x2.toInt = wA w x1.toInt - 97 := if_pos hy
      have eI : paI w x1.toInt x2.toInt = x1.toInt + 1 := if_pos hy
      rw [eF, eI, ← t_v10]
      rw [o9 3 (by decide), i3] at g3 g5
      refine ⟨sx_t s9 g1, fun j a b => (g2 j b).trans ((o9 j a).trans (i2 j a b)), ?_, g3, g4, g5⟩
      rw [g2 4 (by decide), e_S9, zI_self]
      omega
/-- what the reader holds of a word that is no castling -/
def PRf (S : ZS) (x0 : Nat) (w : List Int) : Prop := (zI S 3 x0).toInt = prK w ∧ (zI S 4 x0).toInt = prF w ∧ (zI S 5 x0).toInt = prR w ∧ (zI S 6 x0).toInt = prT w ∧ (zI S 7 x0).toInt = prB w ∧ (zI S 8 x0).toInt = prX w
/-- from which state a word is read -/
def PRi (S0 S : ZS) (x0 : Nat) : Prop := SXf S0 S x0 ∧ (∀ j, 9 ≤ j ∨ j ≤ 1 → zI S j x0 = zI S0 j x0)
theorem pri_I {S0 S S1 : ZS} {j : Nat} {v : Int32} (h : PRi S0 S x0) (e : S1 = zsI S j x0 v) (hj : 2 ≤ j ∧ j ≤ 8) : PRi S0 S1 x0 := ⟨sx_t h.1 (sx_I e), fun i hi => by rw [e, zI_j (by omega)]; exact h.2 i hi⟩
theorem wl_b {w : List Int} (hl : w.length ≤ 8) : (w.length : Int) ≤ 8 := by omega
theorem pp_232 {S0 : ZS} {t0 : Int32} (hI : PRi S0 S x0) (hP : zP S0 1 x0 = some rw) (hne : rw ≠ x0) (hw : RWL S0 rw w) (hb : ∀ i, 0 ≤ wA w i ∧ wA w i ≤ 127) (hlw : w.length ≤ 8) (h1 : x1.toInt = prS w) (h2 : x2.toInt = prN w - 2) (ht : t0.toInt = prX w) (k3 : (zI S 3 x0).toInt = prK w) (k6 : (zI S 6 x0).toInt = prT w) (k7 : (zI S 7 x0).toInt = prB w) (k2 : (zI S 2 x0).toInt = 0) (hf : f_X8_parse_232 x0 x1 x2 t0 x0 S = some o) : PRi S0 o.2 x0 ∧ (zI o.2 2 x0).toInt = 0 ∧ (o.1.toInt = 0 ∨ o.1.toInt = 1) ∧ (o.1.toInt = 1 ↔ prJ w = prZ w) ∧ PRf o.2 x0 w := by
  have hS : prS w = 0 ∨ prS w = 1 := by unfold prS; split <;> omega
  have hX : prX w = 0 ∨ prX w = 1 := by unfold prX; split <;> omega
  have hN : prN w ≤ (w.length : Int) ∧ (w.length : Int) - 2 ≤ prN w := by unfold prN; split <;> omega
  unfold f_X8_parse_232 at hf
  obtain ⟨-, hf⟩ := m_chkE hf
  obtain ⟨S1, e_S1, hf⟩ := m_bndE hf
  have I1 := pri_I hI e_S1 (by decide)
  have i8 : zI S1 8 x0 = t0 := by rw [e_S1]; exact zI_self _ _ _ _
  have o1 : ∀ j, j ≠ 8 → zI S1 j x0 = zI S j x0 := fun j hj => by rw [e_S1, zI_j hj]
  obtain ⟨-, hf⟩ := m_chkE hf
  obtain ⟨v2, e_v2, hf⟩ := m_bndE hf
  have t_v2 : v2.toInt = prZ w := by
    have := ti_sub (c := v2) (a := x2) (b := zI S1 8 x0) e_v2 rfl rfl (by rw [i8]; omega) (by rw [i8]; omega)
    rw [this, i8, h2, ht]
    rfl
  obtain ⟨-, hf⟩ := m_chkE hf
  obtain ⟨⟨r3, S3c⟩, h_r3, hf⟩ := m_calE hf
  dsimp only at hf
  obtain ⟨g1, g2, g3, g4, g5, g6⟩ := p_apart (by rw [I1.1.2.1]; exact hP) hne (sx_rwl I1.1 hne hw) hb (by omega) h_r3
  dsimp only at g1 g2 g3 g4 g5 g6
  rw [o1 3 (by decide), k3, t_v2, h1] at g4 g6
  rw [t_v2, h1] at g3
  obtain ⟨-, hf⟩ := m_chkE hf
  cases hf
  try dsimp only
  refine ⟨⟨sx_t I1.1 g1, fun j hj => (g2 j (by omega) (by omega)).trans (I1.2 j hj)⟩, by rw [g2 2 (by decide) (by decide), o1 2 (by decide)]; exact k2, g5, g6, ?_, g3, g4, ?_, ?_, ?_⟩
  · rw [g2 3 (by decide) (by decide), o1 3 (by decide)]; exact k3
  · rw [g2 6 (by decide) (by decide), o1 6 (by decide)]; exact k6
  · rw [g2 7 (by decide) (by decide), o1 7 (by decide)]; exact k7
  · rw [g2 8 (by decide) (by decide), i8]; exact ht
theorem pp_166 {S0 : ZS} (hI : PRi S0 S x0) (hP : zP S0 1 x0 = some rw) (hne : rw ≠ x0) (hw : RWL S0 rw w) (hb : ∀ i, 0 ≤ wA w i ∧ wA w i ≤ 127) (hlw : w.length ≤ 8) (h1 : x1.toInt = prS w) (h2 : x2.toInt = prN w) (k3 : (zI S 3 x0).toInt = prK w) (k7 : (zI S 7 x0).toInt = prB w) (k2 : (zI S 2 x0).toInt = 0) (hf : f_X8_parse_166 x0 x1 x2 S = some o) : PRi S0 o.2 x0 ∧ (zI o.2 2 x0).toInt = 0 ∧ (o.1.toInt = 0 ∨ o.1.toInt = 1) ∧ (o.1.toInt = 1 ↔ prT w ≠ -1 ∧ prJ w = prZ w) ∧ (o.1.toInt = 1 → PRf o.2 x0 w) := by
  have hS : prS w = 0 ∨ prS w = 1 := by unfold prS; split <;> omega
  have hN : prN w ≤ (w.length : Int) ∧ (w.length : Int) - 2 ≤ prN w := by unfold prN; split <;> omega
  have P0 : zP S 1 x0 = some rw := by rw [hI.1.2.1]; exact hP
  have w0 := sx_rwl hI.1 hne hw
  have z1 : (-1 : Int32).toInt = -1 := rfl
  unfold f_X8_parse_166 at hf
  obtain ⟨-, hf⟩ := m_chkE hf
  replace hf := m_calY hf P0
  obtain ⟨v2, e_v2, hf⟩ := m_bndE hf
  have t_v2 : v2.toInt = x2.toInt - 2 := ti_sub e_v2 rfl (show (2 : Int32).toInt = 2 from rfl) (by omega) (by omega)
  obtain ⟨-, hf⟩ := m_chkE hf
  obtain ⟨r3, h_r3, hf⟩ := m_calR hf (fun _ h => ro_X6_at h)
  dsimp only at hf
  have p_r3 := pc_X6_at h_r3
  dsimp only at p_r3
  rw [w0.2, t_v2, h2] at p_r3
  obtain ⟨-, hf⟩ := m_chkE hf
  replace hf := m_calY hf P0
  obtain ⟨v5, e_v5, hf⟩ := m_bndE hf
  have t_v5 : v5.toInt = x2.toInt - 1 := ti_sub e_v5 rfl (show (1 : Int32).toInt = 1 from rfl) (by omega) (by omega)
  obtain ⟨-, hf⟩ := m_chkE hf
  obtain ⟨r6, h_r6, hf⟩ := m_calR hf (fun _ h => ro_X6_at h)
  dsimp only at hf
  have p_r6 := pc_X6_at h_r6
  dsimp only at p_r6
  rw [w0.2, t_v5, h2] at p_r6
  obtain ⟨r7, h_r7, hf⟩ := m_calR hf (fun _ h => ro_X11_squareOf h)
  dsimp only at hf
  have p_r7 := pc_X11_squareOf h_r7
  dsimp only at p_r7
  have q7 : r7.toInt = prT w := by rw [p_r7, p_r3, p_r6]; rfl
  obtain ⟨-, hf⟩ := m_chkE hf
  obtain ⟨S8, e_S8, hf⟩ := m_bndE hf
  have I8 := pri_I hI e_S8 (by decide)
  have P8 : zP S8 1 x0 = some rw := by rw [I8.1.2.1]; exact hP
  have i6 : (zI S8 6 x0).toInt = prT w := by rw [e_S8, zI_self]; exact q7
  have o8 : ∀ j, j ≠ 6 → zI S8 j x0 = zI S j x0 := fun j hj => by rw [e_S8, zI_j hj]
  have w8 := sx_rwl I8.1 hne hw
  obtain ⟨v9, e_v9, hf⟩ := m_bndE hf
  have t_v9 : v9.toInt = x2.toInt + (-2) := ti_add e_v9 rfl (show (-2 : Int32).toInt = -2 from rfl) (by omega) (by omega)
  obtain ⟨-, hf⟩ := m_chkE hf
  rcases m_ifE hf with ⟨c1, hf⟩ | ⟨c1, hf⟩
  · skip
    replace c1 := ti_eqP (a := (zI S8 6 x0)) (b := (-1 : Int32)) c1 rfl (show (-1 : Int32).toInt = -1 from rfl)
    obtain ⟨-, hf⟩ := m_chkE hf
    cases hf
    try dsimp only
    exact ⟨I8, by rw [o8 2 (by decide)]; exact k2, Or.inl rfl, ⟨fun h => absurd h (by decide), fun h => absurd (by omega) h.1⟩, fun h => absurd h (by decide)⟩
  · skip
    replace c1 := ti_eqN (a := (zI S8 6 x0)) (b := (-1 : Int32)) c1 rfl (show (-1 : Int32).toInt = -1 from rfl)
    rcases m_ifE hf with ⟨c2, hf⟩ | ⟨c2, hf⟩
    · skip
      replace c2 := ti_leP (a := v9) (b := x1) c2 rfl rfl
      unfold f_X8_parse_231 at hf
      have eX : prX w = 0 := if_neg (fun h => by omega)
      obtain ⟨g1, g2, g3, g4, g5⟩ := pp_232 I8 hP hne hw hb hlw h1 (by omega) (by rw [eX]; rfl) (by rw [o8 3 (by decide)]; exact k3) i6 (by rw [o8 7 (by decide)]; exact k7) (by rw [o8 2 (by decide)]; exact k2) hf
      exact ⟨g1, g2, g3, g4.trans ⟨fun h => ⟨by omega, h⟩, fun h => h.2⟩, fun _ => g5⟩
    · skip
      replace c2 := ti_leN (a := v9) (b := x1) c2 rfl rfl
      obtain ⟨-, hf⟩ := m_chkE hf
      replace hf := m_calY hf P8
      obtain ⟨v11, e_v11, hf⟩ := m_bndE hf
      have t_v11 : v11.toInt = v9.toInt - 1 := ti_sub e_v11 rfl (show (1 : Int32).toInt = 1 from rfl) (by omega) (by omega)
      obtain ⟨-, hf⟩ := m_chkE hf
      obtain ⟨r12, h_r12, hf⟩ := m_calR hf (fun _ h => ro_X6_at h)
      dsimp only at hf
      have p_r12 := pc_X6_at h_r12
      dsimp only at p_r12
      rw [w8.2, t_v11, t_v9, h2, show prN w + -2 - 1 = prN w - 2 - 1 by omega] at p_r12
      rcases m_ifE hf with ⟨c3, hf⟩ | ⟨c3, hf⟩
      · skip
        replace c3 := ti_eqP (a := r12) (b := (120 : Int32)) c3 rfl (show (120 : Int32).toInt = 120 from rfl)
        have eX : prX w = 1 := if_pos ⟨by omega, by omega⟩
        obtain ⟨g1, g2, g3, g4, g5⟩ := pp_232 I8 hP hne hw hb hlw h1 (by omega) (by rw [eX]; rfl) (by rw [o8 3 (by decide)]; exact k3) i6 (by rw [o8 7 (by decide)]; exact k7) (by rw [o8 2 (by decide)]; exact k2) hf
        exact ⟨g1, g2, g3, g4.trans ⟨fun h => ⟨by omega, h⟩, fun h => h.2⟩, fun _ => g5⟩
      · skip
        replace c3 := ti_eqN (a := r12) (b := (120 : Int32)) c3 rfl (show (120 : Int32).toInt = 120 from rfl)
        unfold f_X8_parse_231 at hf
        have eX : prX w = 0 := if_neg (fun h => by omega)
        obtain ⟨g1, g2, g3, g4, g5⟩ := pp_232 I8 hP hne hw hb hlw h1 (by omega) (by rw [eX]; rfl) (by rw [o8 3 (by decide)]; exact k3) i6 (by rw [o8 7 (by decide)]; exact k7) (by rw [o8 2 (by decide)]; exact k2) hf
        exact ⟨g1, g2, g3, g4.trans ⟨fun h => ⟨by omega, h⟩, fun h => h.2⟩, fun _ => g5⟩
theorem pp_102 {S0 : ZS} {t0 : Int32} (hI : PRi S0 S x0) (hP : zP S0 1 x0 = some rw) (hne : rw ≠ x0) (hw : RWL S0 rw w) (hb : ∀ i, 0 ≤ wA w i ∧ wA w i ≤ 127) (hlw : w.length ≤ 8) (h1 : x1.toInt = prS w) (h2 : x2.toInt = (w.length : Int)) (ht : t0.toInt = prK w) (k7 : (zI S 7 x0).toInt = 0) (k2 : (zI S 2 x0).toInt = 0) (hf : f_X8_parse_102 x0 x1 x2 t0 x0 S = some o) : PRi S0 o.2 x0 ∧ (zI o.2 2 x0).toInt = 0 ∧ (o.1.toInt = 0 ∨ o.1.toInt = 1) ∧ (o.1.toInt = 1 ↔ PRSok w) ∧ (o.1.toInt = 1 → PRf o.2 x0 w) := by
  have z2 : (2 : Int32).toInt = 2 := rfl
  unfold PRSok
  unfold f_X8_parse_102 at hf
  obtain ⟨-, hf⟩ := m_chkE hf
  obtain ⟨S1, e_S1, hf⟩ := m_bndE hf
  have I1 := pri_I hI e_S1 (by decide)
  have P1 : zP S1 1 x0 = some rw := by rw [I1.1.2.1]; exact hP
  have i3 : (zI S1 3 x0).toInt = prK w := by rw [e_S1, zI_self]; exact ht
  have o1 : ∀ j, j ≠ 3 → zI S1 j x0 = zI S j x0 := fun j hj => by rw [e_S1, zI_j hj]
  have w1 := sx_rwl I1.1 hne hw
  have no : ¬ (prK w = 1 ∧ wA w ((w.length : Int) - 2) = 61) → f_X8_parse_166 x0 x1 x2 S1 = some o → PRi S0 o.2 x0 ∧ (zI o.2 2 x0).toInt = 0 ∧ (o.1.toInt = 0 ∨ o.1.toInt = 1) ∧ (o.1.toInt = 1 ↔ (prK w = 1 ∧ wA w ((w.length : Int) - 2) = 61 → 2 ≤ prB w ∧ prB w ≤ 5) ∧ prT w ≠ -1 ∧ prJ w = prZ w) ∧ (o.1.toInt = 1 → PRf o.2 x0 w) := by
    intro hn hf
    have eN : prN w = (w.length : Int) := if_neg hn
    have eB : prB w = 0 := if_neg hn
    obtain ⟨g1, g2, g3, g4, g5⟩ := pp_166 I1 hP hne hw hb hlw h1 (by omega) i3 (by rw [o1 7 (by decide), eB]; exact k7) (by rw [o1 2 (by decide)]; exact k2) hf
    exact ⟨g1, g2, g3, g4.trans ⟨fun h => ⟨fun e => absurd e hn, h⟩, fun h => h.2⟩, g5⟩
  obtain ⟨-, hf⟩ := m_chkE hf
  rcases m_ifE hf with ⟨c1, hf⟩ | ⟨c1, hf⟩
  · skip
    replace c1 := ti_eqP (a := (zI S1 3 x0)) (b := (1 : Int32)) c1 rfl (show (1 : Int32).toInt = 1 from rfl)
    obtain ⟨-, hf⟩ := m_chkE hf
    replace hf := m_calY hf P1
    obtain ⟨v3, e_v3, hf⟩ := m_bndE hf
    have t_v3 : v3.toInt = x2.toInt - 2 := ti_sub e_v3 rfl (show (2 : Int32).toInt = 2 from rfl) (by omega) (by omega)
    obtain ⟨-, hf⟩ := m_chkE hf
    obtain ⟨r4, h_r4, hf⟩ := m_calR hf (fun _ h => ro_X6_at h)
    dsimp only at hf
    have p_r4 := pc_X6_at h_r4
    dsimp only at p_r4
    rw [w1.2, t_v3, h2] at p_r4
    rcases m_ifE hf with ⟨c2, hf⟩ | ⟨c2, hf⟩
    · skip
      replace c2 := ti_eqP (a := r4) (b := (61 : Int32)) c2 rfl (show (61 : Int32).toInt = 61 from rfl)
      obtain ⟨-, hf⟩ := m_chkE hf
      replace hf := m_calY hf P1
      obtain ⟨v6, e_v6, hf⟩ := m_bndE hf
      have t_v6 : v6.toInt = x2.toInt - 1 := ti_sub e_v6 rfl (show (1 : Int32).toInt = 1 from rfl) (by omega) (by omega)
      obtain ⟨-, hf⟩ := m_chkE hf
      obtain ⟨r7, h_r7, hf⟩ := m_calR hf (fun _ h => ro_X6_at h)
      dsimp only at hf
      have p_r7 := pc_X6_at h_r7
      dsimp only at p_r7
      rw [w1.2, t_v6, h2] at p_r7
      have b7 := hb ((w.length : Int) - 1)
      obtain ⟨r8, h_r8, hf⟩ := m_calR hf (fun _ h => ro_X11_kindOf h)
      dsimp only at hf
      have p_r8 := pc_X11_kindOf h_r8
      dsimp only at p_r8
      have q8 := p_r8 (by omega)
      rw [p_r7] at q8
      have kb := kO_b (wA w ((w.length : Int) - 1))
      obtain ⟨-, hf⟩ := m_chkE hf
      obtain ⟨S9, e_S9, hf⟩ := m_bndE hf
      have hy : prK w = 1 ∧ wA w ((w.length : Int) - 2) = 61 := ⟨by omega, by omega⟩
      have eN : prN w = (w.length : Int) - 2 := if_pos hy
      have eB : prB w = kO (wA w ((w.length : Int) - 1)) := if_pos hy
      have I9 := pri_I I1 e_S9 (by decide)
      have i7 : (zI S9 7 x0).toInt = prB w := by rw [e_S9, zI_self, eB]; exact q8
      have o9 : ∀ j, j ≠ 7 → zI S9 j x0 = zI S1 j x0 := fun j hj => by rw [e_S9, zI_j hj]
      have k29 : (zI S9 2 x0).toInt = 0 := by rw [o9 2 (by decide), o1 2 (by decide)]; exact k2
      obtain ⟨-, hf⟩ := m_chkE hf
      rcases m_ifE hf with ⟨c3, hf⟩ | ⟨c3, hf⟩
      · skip
        replace c3 := ti_ltP (a := (zI S9 7 x0)) (b := (2 : Int32)) c3 rfl (show (2 : Int32).toInt = 2 from rfl)
        unfold f_X8_parse_161 at hf
        obtain ⟨-, hf⟩ := m_chkE hf
        cases hf
        try dsimp only
        exact ⟨I9, k29, Or.inl rfl, ⟨fun h => absurd h (by decide), fun h => by have := h.1 hy; omega⟩, fun h => absurd h (by decide)⟩
      · skip
        replace c3 := ti_ltN (a := (zI S9 7 x0)) (b := (2 : Int32)) c3 rfl (show (2 : Int32).toInt = 2 from rfl)
        obtain ⟨-, hf⟩ := m_chkE hf
        rcases m_ifE hf with ⟨c4, hf⟩ | ⟨c4, hf⟩
        · skip
          replace c4 := ti_leP (a := (zI S9 7 x0)) (b := (5 : Int32)) c4 rfl (show (5 : Int32).toInt = 5 from rfl)
          obtain ⟨v10, e_v10, hf⟩ := m_bndE hf
          have t_v10 : v10.toInt = x2.toInt + (-2) := ti_add e_v10 rfl (show (-2 : Int32).toInt = -2 from rfl) (by omega) (by omega)
          obtain ⟨g1, g2, g3, g4, g5⟩ := pp_166 I9 hP hne hw hb hlw h1 (by omega) (by rw [o9 3 (by decide)]; exact i3) i7 k29 hf
          exact ⟨g1, g2, g3, g4.trans ⟨fun h => ⟨fun _ => by omega, h⟩, fun h => h.2⟩, g5⟩
        · skip
          replace c4 := ti_leN (a := (zI S9 7 x0)) (b := (5 : Int32)) c4 rfl (show (5 : Int32).toInt = 5 from rfl)
          unfold f_X8_parse_161 at hf
          obtain ⟨-, hf⟩ := m_chkE hf
          cases hf
          try dsimp only
          exact ⟨I9, k29, Or.inl rfl, ⟨fun h => absurd h (by decide), fun h => by have := h.1 hy; omega⟩, fun h => absurd h (by decide)⟩
    · skip
      replace c2 := ti_eqN (a := r4) (b := (61 : Int32)) c2 rfl (show (61 : Int32).toInt = 61 from rfl)
      exact no (fun h => by have := h.2; omega) hf
  · skip
    replace c1 := ti_eqN (a := (zI S1 3 x0)) (b := (1 : Int32)) c1 rfl (show (1 : Int32).toInt = 1 from rfl)
    exact no (fun h => by have := h.1; omega) hf
theorem p_parse (hP : zP S 1 x0 = some rw) (hne : rw ≠ x0) (hw : RWL S rw w) (hb : ∀ i, 0 ≤ wA w i ∧ wA w i ≤ 127) (hlw : w.length ≤ 8) (hf : f_X8_parse x0 S = some o) : PRi S o.2 x0 ∧ ((w = strL 7 ∧ o.1.toInt = 1 ∧ (zI o.2 2 x0).toInt = 2 ∧ (zI o.2 7 x0).toInt = 0) ∨ (w ≠ strL 7 ∧ w = strL 8 ∧ o.1.toInt = 1 ∧ (zI o.2 2 x0).toInt = -2 ∧ (zI o.2 7 x0).toInt = 0) ∨ (w ≠ strL 7 ∧ w ≠ strL 8 ∧ (zI o.2 2 x0).toInt = 0 ∧ (o.1.toInt = 0 ∨ o.1.toInt = 1) ∧ (o.1.toInt = 1 ↔ PRSok w) ∧ (o.1.toInt = 1 → PRf o.2 x0 w))) := by
  have hf : f_X8_parse_0 x0 S = some o := hf
  have z0 : (0 : Int32).toInt = 0 := rfl
  have z1 : (1 : Int32).toInt = 1 := rfl
  have z2 : (2 : Int32).toInt = 2 := rfl
  have z3 : (-2 : Int32).toInt = -2 := rfl
  have hl0 := hw.1
  unfold f_X8_parse_0 at hf
  obtain ⟨-, hf⟩ := m_chkE hf
  obtain ⟨S1, e_S1, hf⟩ := m_bndE hf
  have I1 : PRi S S1 x0 := pri_I ⟨sx_0, fun _ _ => rfl⟩ e_S1 (by decide)
  have P1 : zP S1 1 x0 = some rw := by rw [I1.1.2.1]; exact hP
  have i7 : (zI S1 7 x0).toInt = 0 := by rw [e_S1, zI_self]; rfl
  have w1 := sx_rwl I1.1 hne hw
  have l1 : (zI S1 1 rw).toInt ≤ 100000 := by rw [w1.1]; omega
  obtain ⟨-, hf⟩ := m_chkE hf
  replace hf := m_calY hf P1
  obtain ⟨-, hf⟩ := m_chkE hf
  obtain ⟨r3, h_r3, hf⟩ := m_calR hf (fun _ h => ro_X6_is h)
  dsimp only at hf
  have p_r3 := pc_X6_is h_r3
  dsimp only at p_r3
  obtain ⟨b3, q3⟩ := p_r3 w w1 l1
  rcases m_ifE hf with ⟨c1, hf⟩ | ⟨c1, hf⟩
  · skip
    replace c1 := ti_eqP (a := r3) (b := (0 : Int32)) c1 rfl (show (0 : Int32).toInt = 0 from rfl)
    obtain ⟨-, hf⟩ := m_chkE hf
    replace hf := m_calY hf P1
    obtain ⟨-, hf⟩ := m_chkE hf
    obtain ⟨r5, h_r5, hf⟩ := m_calR hf (fun _ h => ro_X6_is h)
    dsimp only at hf
    have p_r5 := pc_X6_is h_r5
    dsimp only at p_r5
    obtain ⟨b5, q5⟩ := p_r5 w w1 l1
    rcases m_ifE hf with ⟨c2, hf⟩ | ⟨c2, hf⟩
    · skip
      replace c2 := ti_eqP (a := r5) (b := (0 : Int32)) c2 rfl (show (0 : Int32).toInt = 0 from rfl)
      have n7 : w ≠ strL 7 := fun h => by have := q3.2 h; omega
      have n8 : w ≠ strL 8 := fun h => by have := q5.2 h; omega
      unfold f_X8_parse_40 at hf
      obtain ⟨-, hf⟩ := m_chkE hf
      obtain ⟨S2, e2, hf⟩ := m_bndE hf
      have I2 := pri_I I1 e2 (by decide)
      have P2 : zP S2 1 x0 = some rw := by rw [I2.1.2.1]; exact hP
      have w2 := sx_rwl I2.1 hne hw
      have i2 : (zI S2 2 x0).toInt = 0 := by rw [e2, zI_self]; rfl
      have i72 : (zI S2 7 x0).toInt = 0 := by rw [e2, zI_j (by decide)]; exact i7
      obtain ⟨-, hf⟩ := m_chkE hf
      rcases m_ifE hf with ⟨c3, hf⟩ | ⟨c3, hf⟩
      · obtain ⟨-, hf⟩ := m_chkE hf
        replace hf := m_calY hf P2
        obtain ⟨-, hf⟩ := m_chkE hf
        obtain ⟨r6, h6, hf⟩ := m_calR hf (fun _ h => ro_X6_at h)
        have p6 := pc_X6_at h6
        dsimp only at hf p6
        rw [w2.2, z0] at p6
        have b6 := hb 0
        obtain ⟨r7, h7, hf⟩ := m_calR hf (fun _ h => ro_X11_kindOf h)
        have p7 := pc_X11_kindOf h7 (by omega)
        dsimp only at hf p7
        rw [p6] at p7
        have kb := kO_b (wA w 0)
        have fin : ∀ {t0 : Int32}, (t0.toInt = 1 ↔ 2 ≤ kO (wA w 0)) → (t0.toInt = 0 ∨ t0.toInt = 1) → f_X8_parse_72 x0 t0 S2 = some o → PRi S o.2 x0 ∧ ((zI o.2 2 x0).toInt = 0 ∧ (o.1.toInt = 0 ∨ o.1.toInt = 1) ∧ (o.1.toInt = 1 ↔ PRSok w) ∧ (o.1.toInt = 1 → PRf o.2 x0 w)) := by
          intro t0 ht ht2 hf
          have eS : t0.toInt = prS w := by
            unfold prS
            split <;> omega
          unfold f_X8_parse_72 at hf
          obtain ⟨-, hf⟩ := m_chkE hf
          replace hf := m_calY hf P2
          obtain ⟨-, hf⟩ := m_chkE hf
          obtain ⟨r8, h8, hf⟩ := m_calR hf (fun _ h => ro_X6_size h)
          have p8 := pc_X6_size h8
          dsimp only at hf p8
          have l8 : r8.toInt = (w.length : Int) := by rw [p8]; exact w2.1
          rcases m_ifE hf with ⟨c4, hf⟩ | ⟨c4, hf⟩
          · obtain ⟨-, hf⟩ := m_chkE hf
            replace hf := m_calY hf P2
            obtain ⟨-, hf⟩ := m_chkE hf
            obtain ⟨r9, h9, hf⟩ := m_calR hf (fun _ h => ro_X6_at h)
            have p9 := pc_X6_at h9
            dsimp only at hf p9
            rw [w2.2, z0] at p9
            obtain ⟨r10, h10, hf⟩ := m_calR hf (fun _ h => ro_X11_kindOf h)
            have p10 := pc_X11_kindOf h10 (by omega)
            dsimp only at hf p10
            rw [p9] at p10
            have e1 : t0.toInt = 1 := by rw [c4]; rfl
            have eK : r10.toInt = prK w := by
              unfold prK
              rw [if_pos (ht.1 e1), p10]
            obtain ⟨g1, g2, g3, g4, g5⟩ := pp_102 I2 hP hne hw hb hlw eS l8 eK i72 i2 hf
            exact ⟨g1, g2, g3, g4, g5⟩
          · have e1 : t0.toInt = 0 := ht2.resolve_right (fun h => c4 (Int32.toInt_inj.1 h))
            have eK : (1 : Int32).toInt = prK w := by
              unfold prK
              rw [if_neg (fun h => by have := ht.2 h; omega)]
              rfl
            obtain ⟨g1, g2, g3, g4, g5⟩ := pp_102 I2 hP hne hw hb hlw eS l8 eK i72 i2 hf
            exact ⟨g1, g2, g3, g4, g5⟩
        rcases m_ifE hf with ⟨c4, hf⟩ | ⟨c4, hf⟩
        · replace c4 := ti_ltP (a := r7) (b := (2 : Int32)) c4 rfl rfl
          obtain ⟨g1, g2⟩ := fin ⟨fun h => absurd h (by decide), fun h => by omega⟩ (Or.inl rfl) hf
          exact ⟨g1, Or.inr (Or.inr ⟨n7, n8, g2⟩)⟩
        · replace c4 := ti_ltN (a := r7) (b := (2 : Int32)) c4 rfl rfl
          obtain ⟨g1, g2⟩ := fin ⟨fun _ => by omega, fun _ => rfl⟩ (Or.inr rfl) hf
          exact ⟨g1, Or.inr (Or.inr ⟨n7, n8, g2⟩)⟩
      · exact absurd (Int32.toInt_inj.1 (i2.trans z0.symm)) c3
    · skip
      replace c2 := ti_eqN (a := r5) (b := (0 : Int32)) c2 rfl (show (0 : Int32).toInt = 0 from rfl)
      have n7 : w ≠ strL 7 := fun h => by have := q3.2 h; omega
      unfold f_X8_parse_40 at hf
      obtain ⟨-, hf⟩ := m_chkE hf
      obtain ⟨S2, e2, hf⟩ := m_bndE hf
      have i2 : (zI S2 2 x0).toInt = -2 := by rw [e2, zI_self]; rfl
      obtain ⟨-, hf⟩ := m_chkE hf
      rcases m_ifE hf with ⟨c3, hf⟩ | ⟨c3, hf⟩
      · rw [c3] at i2
        omega
      · obtain ⟨-, hf⟩ := m_chkE hf
        cases hf
        exact ⟨pri_I I1 e2 (by decide), Or.inr (Or.inl ⟨n7, q5.1 (by omega), rfl, i2, by rw [e2, zI_j (by decide)]; exact i7⟩)⟩
  · skip
    replace c1 := ti_eqN (a := r3) (b := (0 : Int32)) c1 rfl (show (0 : Int32).toInt = 0 from rfl)
    unfold f_X8_parse_40 at hf
    obtain ⟨-, hf⟩ := m_chkE hf
    obtain ⟨S2, e2, hf⟩ := m_bndE hf
    have i2 : (zI S2 2 x0).toInt = 2 := by rw [e2, zI_self]; rfl
    obtain ⟨-, hf⟩ := m_chkE hf
    rcases m_ifE hf with ⟨c3, hf⟩ | ⟨c3, hf⟩
    · rw [c3] at i2
      omega
    · obtain ⟨-, hf⟩ := m_chkE hf
      cases hf
      exact ⟨pri_I I1 e2 (by decide), Or.inl ⟨q3.1 (by omega), rfl, i2, by rw [e2, zI_j (by decide)]; exact i7⟩⟩
end PAP
