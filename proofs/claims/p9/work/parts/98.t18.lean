/-- the characters of a text that stands in the class -/
def strL (k : Nat) : List Int := (zSb.getD k []).map Int32.toInt
theorem str_all : ∀ k, k < 29 → zSl.getD k 0 = (zSb.getD k []).length ∧ (zSb.getD k []).length ≤ 40 ∧ ∀ c ∈ zSb.getD k [], ((c &&& (255 : Int32)).toUInt32 % 65536).toInt32 = c ∧ 0 ≤ c.toInt ∧ c.toInt ≤ 127 := by decide +kernel
theorem str_len {k : Nat} (h : k < 29) : (strL k).length = zSl.getD k 0 := by
  unfold strL
  rw [List.length_map, (str_all k h).1]
theorem str_c {k i : Nat} (h : k < 29) (hi : i < zSl.getD k 0) : (zSb.getD k []).getD i 0 ∈ zSb.getD k [] ∧ (strL k).getD i 0 = ((zSb.getD k []).getD i 0).toInt := by
  have h1 : i < (zSb.getD k []).length := by rw [← (str_all k h).1]; exact hi
  have e : (zSb.getD k []).getD i 0 = (zSb.getD k [])[i] := by
    rw [List.getD_eq_getElem?_getD, List.getElem?_eq_getElem h1]
    rfl
  refine ⟨by rw [e]; exact List.getElem_mem h1, ?_⟩
  unfold strL
  rw [e, List.getD_eq_getElem?_getD, List.getElem?_map, List.getElem?_eq_getElem h1]
  rfl
section STR
variable {S : ZS} {x0 : Nat} {x1 x2 : Int32} {o : Int32 × ZS}
theorem pc_J0_coder_7d493 (hf : f_J0_coder_7d493 x0 S = some o) : o.1 = 0 := by
  have hf : f_J0_coder_7d493_0 x0 S = some o := hf
  unfold f_J0_coder_7d493_0 at hf
  rcases m_ifE hf with ⟨c1, hf⟩ | ⟨c1, hf⟩
  · skip
    replace c1 := ti_eqP (a := (1 : Int32)) (b := (0 : Int32)) c1 (show (1 : Int32).toInt = 1 from rfl) (show (0 : Int32).toInt = 0 from rfl)
    omega
  · skip
    replace c1 := ti_eqN (a := (1 : Int32)) (b := (0 : Int32)) c1 (show (1 : Int32).toInt = 1 from rfl) (show (0 : Int32).toInt = 0 from rfl)
    obtain ⟨-, hf⟩ := m_chkE hf
    unfold f_J0_coder_7d493_14 at hf
    obtain ⟨-, hf⟩ := m_chkE hf
    cases hf
    try dsimp only
    try rfl
theorem pc_J0_isLatin1_aae02 (hf : f_J0_isLatin1_aae02 x0 S = some o) : o.1 = 1 := by
  have hf : f_J0_isLatin1_aae02_0 x0 S = some o := hf
  unfold f_J0_isLatin1_aae02_0 at hf
  rcases m_ifE hf with ⟨c1, hf⟩ | ⟨c1, hf⟩
  · skip
    replace c1 := ti_eqP (a := (1 : Int32)) (b := (0 : Int32)) c1 (show (1 : Int32).toInt = 1 from rfl) (show (0 : Int32).toInt = 0 from rfl)
    omega
  · skip
    replace c1 := ti_eqN (a := (1 : Int32)) (b := (0 : Int32)) c1 (show (1 : Int32).toInt = 1 from rfl) (show (0 : Int32).toInt = 0 from rfl)
    obtain ⟨-, hf⟩ := m_chkE hf
    rcases m_ifE hf with ⟨c2, hf⟩ | ⟨c2, hf⟩
    · skip
      replace c2 := ti_eqP (a := (0 : Int32)) (b := (0 : Int32)) c2 (show (0 : Int32).toInt = 0 from rfl) (show (0 : Int32).toInt = 0 from rfl)
      unfold f_J0_isLatin1_aae02_18 at hf
      obtain ⟨-, hf⟩ := m_chkE hf
      cases hf
      try dsimp only
      try rfl
    · skip
      replace c2 := ti_eqN (a := (0 : Int32)) (b := (0 : Int32)) c2 (show (0 : Int32).toInt = 0 from rfl) (show (0 : Int32).toInt = 0 from rfl)
      exact absurd rfl c2
theorem pc_J0_length_8abf5 (hf : f_J0_length_8abf5 x0 S = some o) : x0 < 29 ∧ o.1.toInt = ((strL x0).length : Int) := by
  have hf : f_J0_length_8abf5_0 x0 S = some o := hf
  unfold f_J0_length_8abf5_0 at hf
  obtain ⟨k0, hf⟩ := m_chkE hf
  obtain ⟨-, hf⟩ := m_chkE hf
  obtain ⟨v1, e1, hf⟩ := m_bndE hf
  obtain ⟨-, hf⟩ := m_chkE hf
  obtain ⟨r2, h2, hf⟩ := m_calR hf (fun _ h => ro_J0_coder_7d493 h)
  have p2 := pc_J0_coder_7d493 h2
  dsimp only at p2 hf
  obtain ⟨v3, e3, hf⟩ := m_bndE hf
  cases hf
  refine ⟨k0, ?_⟩
  have hl := (str_all x0 k0).2.1
  rw [← (str_all x0 k0).1] at hl
  rw [str_len k0, e3, p2, e1]
  have key : ∀ n : Nat, n ≤ 40 → ((Int32.ofNat n) >>> ((0 : Int32) &&& 31)).toInt = (n : Int) := by decide +kernel
  exact key _ hl
theorem pc_J0_charAt_5068e (hf : f_J0_charAt_5068e x0 x1 S = some o) : x0 < 29 ∧ 0 ≤ x1.toInt ∧ x1.toInt < ((strL x0).length : Int) ∧ o.1.toInt = (strL x0).getD x1.toInt.toNat 0 := by
  have hf : f_J0_charAt_5068e_0 x0 x1 S = some o := hf
  unfold f_J0_charAt_5068e_0 at hf
  obtain ⟨k0, hf⟩ := m_chkE hf
  obtain ⟨r1, h1, hf⟩ := m_calR hf (fun _ h => ro_J0_isLatin1_aae02 h)
  dsimp only at hf
  rcases m_ifE hf with ⟨c1, hf⟩ | ⟨c1, hf⟩
  · cases hf
  · obtain ⟨-, hf⟩ := m_chkE hf
    obtain ⟨r2, h2, hf⟩ := m_calR hf (fun _ h => ro_J1_charAt_3b067 h)
    dsimp only at hf
    obtain ⟨-, hf⟩ := m_chkE hf
    cases hf
    have hf : f_J1_charAt_3b067_0 x0 x1 S = some (r2, S) := h2
    unfold f_J1_charAt_3b067_0 at hf
    obtain ⟨-, hf⟩ := m_chkE hf
    obtain ⟨v1, e1, hf⟩ := m_bndE hf
    obtain ⟨r3, h3, hf⟩ := m_calR hf (fun _ h => ro_J0_checkIndex_df160 h)
    dsimp only at hf
    obtain ⟨-, hf⟩ := m_chkE hf
    obtain ⟨ki, hf⟩ := m_chkE hf
    obtain ⟨v3, e3, hf⟩ := m_bndE hf
    obtain ⟨v4, e4, hf⟩ := m_bndE hf
    obtain ⟨v5, e5, hf⟩ := m_bndE hf
    obtain ⟨-, hf⟩ := m_chkE hf
    have k1 : 0 ≤ x1.toInt := by
      apply Classical.byContradiction
      intro h
      exact ki (Or.inl (Int32.lt_iff_toInt_lt.2 (by have z : (0 : Int32).toInt = 0 := rfl; omega)))
    have k2 : x1.toInt.toNat < zSl.getD x0 0 := by
      apply Classical.byContradiction
      intro h
      exact ki (Or.inr (by show zSl.getD x0 0 ≤ x1.toInt.toNat; omega))
    obtain ⟨m1, m2⟩ := str_c k0 k2
    obtain ⟨m3, m4, m5⟩ := (str_all x0 k0).2.2 _ m1
    cases hf
    refine ⟨k0, k1, by rw [str_len k0]; omega, ?_⟩
    rw [m2, e5, e4, e3]
    exact congrArg Int32.toInt m3
/-- whether a text stands in a row of characters, from a place on -/
def HLD (ch : Int → Int) (n : Int) (k : Nat) (a : Int) : Prop := 0 ≤ a ∧ a + ((strL k).length : Int) ≤ n ∧ ∀ i : Int, 0 ≤ i → i < ((strL k).length : Int) → ch (a + i) = (strL k).getD i.toNat 0
theorem hld_21 {x1 : Nat} (h2 : 0 ≤ x2.toInt ∧ x2.toInt ≤ 100000) (hl : x2.toInt + ((strL x1).length : Int) ≤ (zI S 1 x0).toInt) (hs : (strL x1).length ≤ 40) : ∀ (n : Nat) (x3 : Int32), 0 ≤ x3.toInt ∧ x3.toInt ≤ ((strL x1).length : Int) → (∀ i : Int, 0 ≤ i → i < x3.toInt → rwC S x0 (x2.toInt + i) = (strL x1).getD i.toNat 0) → f_X6_holds_21 n x0 x1 x2 x3 S = some o → (o.1.toInt = 0 ∨ o.1.toInt = 1) ∧ (o.1.toInt = 1 ↔ ∀ i : Int, 0 ≤ i → i < ((strL x1).length : Int) → rwC S x0 (x2.toInt + i) = (strL x1).getD i.toNat 0) := by
  intro n
  induction n with
  | zero => intro x3 _ _ hf; cases hf
  | succ n ih =>
    intro x3 h3 hp hf
    have hf : f_X6_holds_21s (f_X6_holds_21 n) x0 x1 x2 x3 S = some o := hf
    unfold f_X6_holds_21s at hf
    obtain ⟨-, hf⟩ := m_chkE hf
    obtain ⟨r1, h_r1, hf⟩ := m_calR hf (fun _ h => ro_J0_length_8abf5 h)
    dsimp only at hf
    have p_r1 := pc_J0_length_8abf5 h_r1
    dsimp only at p_r1
    have q1 := p_r1.2
    rcases m_ifE hf with ⟨c1, hf⟩ | ⟨c1, hf⟩
    · skip
      replace c1 := ti_leP (a := r1) (b := x3) c1 rfl rfl
      obtain ⟨-, hf⟩ := m_chkE hf
      cases hf
      try dsimp only
      exact ⟨Or.inr rfl, fun _ i i1 i2 => hp i i1 (by omega), fun _ => rfl⟩
    · skip
      replace c1 := ti_leN (a := r1) (b := x3) c1 rfl rfl
      obtain ⟨-, hf⟩ := m_chkE hf
      obtain ⟨b2, h_b2, hf⟩ := m_calE hf
      obtain ⟨v3, e_v3, hf⟩ := m_bndE hf
      have t_v3 : v3.toInt = x2.toInt + x3.toInt := ti_add e_v3 rfl rfl (by omega) (by omega)
      obtain ⟨-, hf⟩ := m_chkE hf
      obtain ⟨-, hf⟩ := m_chkE hf
      obtain ⟨v4, e_v4, hf⟩ := m_bndE hf
      have c4 := rw_at (x := v3) h_b2 e_v4 (by omega) (by omega)
      rw [t_v3] at c4
      obtain ⟨-, hf⟩ := m_chkE hf
      obtain ⟨r5, h_r5, hf⟩ := m_calR hf (fun _ h => ro_J0_charAt_5068e h)
      dsimp only at hf
      have p_r5 := pc_J0_charAt_5068e h_r5
      dsimp only at p_r5
      rcases m_ifE hf with ⟨c2, hf⟩ | ⟨c2, hf⟩
      · skip
        replace c2 := ti_eqP (a := v4) (b := r5) c2 rfl rfl
        obtain ⟨v6, e_v6, hf⟩ := m_bndE hf
        have t_v6 : v6.toInt = x3.toInt + 1 := ti_add e_v6 rfl (show (1 : Int32).toInt = 1 from rfl) (by omega) (by omega)
        refine ih v6 (by omega) (fun i i1 i2 => ?_) hf
        by_cases e : i = x3.toInt
        · rw [e, ← c4, ← p_r5.2.2.2]; exact c2
        · exact hp i i1 (by omega)
      · skip
        replace c2 := ti_eqN (a := v4) (b := r5) c2 rfl rfl
        obtain ⟨-, hf⟩ := m_chkE hf
        cases hf
        try dsimp only
        refine ⟨Or.inl rfl, fun h => absurd h (by decide), fun h => absurd ?_ c2⟩
        have := h x3.toInt h3.1 (by omega)
        rw [← c4, ← p_r5.2.2.2] at this
        exact this
theorem pc_X6_holds {x1 : Nat} (hf : f_X6_holds x0 x1 x2 S = some o) : x2.toInt ≤ 100000 → (zI S 1 x0).toInt ≤ 100000 → (o.1.toInt = 0 ∨ o.1.toInt = 1) ∧ (o.1.toInt = 1 ↔ HLD (rwC S x0) (zI S 1 x0).toInt x1 x2.toInt) := by
  intro hb hl
  have hf : f_X6_holds_0 x0 x1 x2 S = some o := hf
  have z0 : (0 : Int32).toInt = 0 := rfl
  unfold HLD
  unfold f_X6_holds_0 at hf
  rcases m_ifE hf with ⟨c1, hf⟩ | ⟨c1, hf⟩
  · skip
    replace c1 := ti_ltP (a := x2) (b := (0 : Int32)) c1 rfl (show (0 : Int32).toInt = 0 from rfl)
    unfold f_X6_holds_17 at hf
    obtain ⟨-, hf⟩ := m_chkE hf
    cases hf
    try dsimp only
    exact ⟨Or.inl rfl, fun h => absurd h (by decide), fun h => by omega⟩
  · skip
    replace c1 := ti_ltN (a := x2) (b := (0 : Int32)) c1 rfl (show (0 : Int32).toInt = 0 from rfl)
    obtain ⟨-, hf⟩ := m_chkE hf
    obtain ⟨r1, h_r1, hf⟩ := m_calR hf (fun _ h => ro_J0_length_8abf5 h)
    dsimp only at hf
    have p_r1 := pc_J0_length_8abf5 h_r1
    dsimp only at p_r1
    obtain ⟨q0, q1⟩ := p_r1
    have q2 : (strL x1).length ≤ 40 := by
      have := (str_all x1 q0).2.1
      rw [str_len q0, (str_all x1 q0).1]; exact this
    obtain ⟨v2, e_v2, hf⟩ := m_bndE hf
    have t_v2 : v2.toInt = x2.toInt + r1.toInt := ti_add e_v2 rfl rfl (by omega) (by omega)
    obtain ⟨-, hf⟩ := m_chkE hf
    rcases m_ifE hf with ⟨c2, hf⟩ | ⟨c2, hf⟩
    · skip
      replace c2 := ti_leP (a := v2) (b := (zI S 1 x0)) c2 rfl rfl
      obtain ⟨g1, g2⟩ := hld_21 ⟨by omega, hb⟩ (by omega) q2 mFuel 0 (by omega) (fun i i1 i2 => by omega) hf
      exact ⟨g1, g2.trans ⟨fun h => ⟨by omega, by omega, h⟩, fun h => h.2.2⟩⟩
    · skip
      replace c2 := ti_leN (a := v2) (b := (zI S 1 x0)) c2 rfl rfl
      unfold f_X6_holds_17 at hf
      obtain ⟨-, hf⟩ := m_chkE hf
      cases hf
      try dsimp only
      exact ⟨Or.inl rfl, fun h => absurd h (by decide), fun h => by omega⟩
/-- a row holds a word -/
def RWL (S : ZS) (b : Nat) (w : List Int) : Prop := (zI S 1 b).toInt = (w.length : Int) ∧ ∀ i, rwC S b i = wA w i
theorem wA_out {w : List Int} {i : Int} (h : i < 0 ∨ (w.length : Int) ≤ i) : wA w i = 0 := by
  unfold wA
  by_cases c : 0 ≤ i
  · rw [if_pos c, List.getD_eq_getElem?_getD, List.getElem?_eq_none (by omega)]
    rfl
  · rw [if_neg c]
theorem wA_in {w : List Int} {i : Nat} (h : i < w.length) : wA w (i : Int) = w[i] := by
  unfold wA
  rw [if_pos (by omega), List.getD_eq_getElem?_getD, List.getElem?_eq_getElem (by omega)]
  rfl
theorem wA_ext {w u : List Int} (hl : w.length = u.length) (h : ∀ i : Int, 0 ≤ i → i < (u.length : Int) → wA w i = wA u i) : w = u := by
  refine List.ext_getElem hl (fun i h1 h2 => ?_)
  have := h (i : Int) (by omega) (by omega)
  rw [wA_in h1, wA_in h2] at this
  exact this
theorem pc_X6_is {x1 : Nat} (hf : f_X6_is x0 x1 S = some o) : ∀ w, RWL S x0 w → (zI S 1 x0).toInt ≤ 100000 → (o.1.toInt = 0 ∨ o.1.toInt = 1) ∧ (o.1.toInt = 1 ↔ w = strL x1) := by
  intro w hw hl
  have hf : f_X6_is_0 x0 x1 S = some o := hf
  have z0 : (0 : Int32).toInt = 0 := rfl
  obtain ⟨w1, w2⟩ := hw
  unfold f_X6_is_0 at hf
  obtain ⟨-, hf⟩ := m_chkE hf
  obtain ⟨-, hf⟩ := m_chkE hf
  obtain ⟨r1, h_r1, hf⟩ := m_calR hf (fun _ h => ro_J0_length_8abf5 h)
  dsimp only at hf
  have p_r1 := pc_J0_length_8abf5 h_r1
  dsimp only at p_r1
  obtain ⟨q0, q1⟩ := p_r1
  rcases m_ifE hf with ⟨c1, hf⟩ | ⟨c1, hf⟩
  · skip
    replace c1 := ti_eqP (a := (zI S 1 x0)) (b := r1) c1 rfl rfl
    obtain ⟨-, hf⟩ := m_chkE hf
    obtain ⟨r2, h_r2, hf⟩ := m_calR hf (fun _ h => ro_X6_holds h)
    dsimp only at hf
    have p_r2 := pc_X6_holds h_r2
    dsimp only at p_r2
    obtain ⟨q2, q3⟩ := p_r2 (by omega) hl
    have q4 : r2.toInt = 1 ↔ w = strL x1 := by
      rw [q3]
      unfold HLD
      constructor
      · rintro ⟨-, -, g⟩
        refine wA_ext (by omega) (fun i i1 i2 => ?_)
        have := g i i1 i2
        rw [z0, Int.zero_add, w2] at this
        rw [this]
        unfold wA
        rw [if_pos i1]
      · intro g
        subst g
        refine ⟨by omega, by omega, fun i i1 i2 => ?_⟩
        rw [z0, Int.zero_add, w2]
        unfold wA
        rw [if_pos i1]
    rcases m_ifE hf with ⟨c2, hf⟩ | ⟨c2, hf⟩
    · skip
      replace c2 := ti_eqP (a := r2) (b := (0 : Int32)) c2 rfl (show (0 : Int32).toInt = 0 from rfl)
      unfold f_X6_is_24 at hf
      unfold f_X6_is_25 at hf
      obtain ⟨-, hf⟩ := m_chkE hf
      cases hf
      try dsimp only
      exact ⟨Or.inl rfl, fun h => absurd h (by decide), fun h => by have := q4.2 h; omega⟩
    · skip
      replace c2 := ti_eqN (a := r2) (b := (0 : Int32)) c2 rfl (show (0 : Int32).toInt = 0 from rfl)
      unfold f_X6_is_25 at hf
      obtain ⟨-, hf⟩ := m_chkE hf
      cases hf
      try dsimp only
      exact ⟨Or.inr rfl, fun _ => q4.1 (by omega), fun _ => rfl⟩
  · skip
    replace c1 := ti_eqN (a := (zI S 1 x0)) (b := r1) c1 rfl rfl
    unfold f_X6_is_24 at hf
    unfold f_X6_is_25 at hf
    obtain ⟨-, hf⟩ := m_chkE hf
    cases hf
    try dsimp only
    refine ⟨Or.inl rfl, fun h => absurd h (by decide), fun h => ?_⟩
    exfalso
    rw [h] at w1
    omega
end STR
section KOF
variable {S : ZS} {o : Int32 × ZS}
theorem p_idx {x0 : Nat} {x3 x4 : Int32} (h3 : x3.toInt ≤ 100) : ∀ (n : Nat) (x5 : Int32), 0 ≤ x5.toInt → (∀ i : Int, 0 ≤ i → i < x5.toInt → (strL x0).getD i.toNat 0 ≠ x4.toInt) → f_J1_indexOfChar_4cfef_7 n x0 x3 x4 x5 S = some o → (o.1.toInt = -1 ∧ ∀ i : Int, 0 ≤ i → i < x3.toInt → (strL x0).getD i.toNat 0 ≠ x4.toInt) ∨ (0 ≤ o.1.toInt ∧ o.1.toInt < x3.toInt ∧ (strL x0).getD o.1.toInt.toNat 0 = x4.toInt ∧ ∀ i : Int, 0 ≤ i → i < o.1.toInt → (strL x0).getD i.toNat 0 ≠ x4.toInt) := by
  intro n
  induction n with
  | zero => intro x5 _ _ hf; cases hf
  | succ n ih =>
    intro x5 h5 hp hf
    have hf : f_J1_indexOfChar_4cfef_7s (f_J1_indexOfChar_4cfef_7 n) x0 x3 x4 x5 S = some o := hf
    unfold f_J1_indexOfChar_4cfef_7s at hf
    rcases m_ifE hf with ⟨c1, hf⟩ | ⟨c1, hf⟩
    · replace c1 := ti_leP (a := x3) (b := x5) c1 rfl rfl
      cases hf
      exact Or.inl ⟨rfl, fun i i1 i2 => hp i i1 (by omega)⟩
    · replace c1 := ti_leN (a := x3) (b := x5) c1 rfl rfl
      obtain ⟨k0, hf⟩ := m_chkE hf
      obtain ⟨ki, hf⟩ := m_chkE hf
      obtain ⟨v1, e1, hf⟩ := m_bndE hf
      have k2 : x5.toInt.toNat < zSl.getD x0 0 := by
        apply Classical.byContradiction
        intro h
        exact ki (Or.inr (by show zSl.getD x0 0 ≤ x5.toInt.toNat; omega))
      have q1 : v1.toInt = (strL x0).getD x5.toInt.toNat 0 := by
        rw [(str_c k0 k2).2, e1]
        rfl
      rcases m_ifE hf with ⟨c2, hf⟩ | ⟨c2, hf⟩
      · cases hf
        exact Or.inr ⟨h5, by omega, by rw [← q1, c2], hp⟩
      · obtain ⟨v2, e2, hf⟩ := m_bndE hf
        have t2 : v2.toInt = x5.toInt + 1 := ti_add e2 rfl (show (1 : Int32).toInt = 1 from rfl) (by omega) (by omega)
        refine ih v2 (by omega) (fun i i1 i2 => ?_) hf
        by_cases e : i = x5.toInt
        · rw [e, ← q1]
          exact fun h => c2 (Int32.toInt_inj.1 h)
        · exact hp i i1 (by omega)
theorem i8_all : ∀ n : Nat, n < 128 → (nI n).toInt8.toInt32 = nI n := by decide +kernel
theorem p_indexOf {x0 : Nat} {x1 : Int32} (h1 : 0 ≤ x1.toInt ∧ x1.toInt ≤ 127) (hk : x0 < 29) (hn : 0 < (strL x0).length) (hf : f_J0_indexOf_0f7a4 x0 x1 S = some o) : (o.1.toInt = -1 ∧ ∀ i : Int, 0 ≤ i → i < ((strL x0).length : Int) → (strL x0).getD i.toNat 0 ≠ x1.toInt) ∨ (0 ≤ o.1.toInt ∧ o.1.toInt < ((strL x0).length : Int) ∧ (strL x0).getD o.1.toInt.toNat 0 = x1.toInt ∧ ∀ i : Int, 0 ≤ i → i < o.1.toInt → (strL x0).getD i.toNat 0 ≠ x1.toInt) := by
  have z0 : (0 : Int32).toInt = 0 := rfl
  have hf : f_J0_indexOf_0f7a4_0 x0 x1 S = some o := hf
  unfold f_J0_indexOf_0f7a4_0 at hf
  obtain ⟨-, hf⟩ := m_chkE hf
  obtain ⟨⟨r1, S1⟩, hf1, hf⟩ := m_calE hf
  cases hf
  have hf : f_J0_indexOf_7cf53_0 x0 x1 0 S = some (r1, S1) := hf1
  unfold f_J0_indexOf_7cf53_0 at hf
  obtain ⟨-, hf⟩ := m_chkE hf
  obtain ⟨r2, h2, hf⟩ := m_calR hf (fun _ h => ro_J0_isLatin1_aae02 h)
  dsimp only at hf
  rcases m_ifE hf with ⟨c1, hf⟩ | ⟨c1, hf⟩
  · cases hf
  · obtain ⟨-, hf⟩ := m_chkE hf
    obtain ⟨-, hf⟩ := m_chkE hf
    obtain ⟨r3, h3, hf⟩ := m_calR hf (fun _ h => ro_J0_length_8abf5 h)
    have p3 := (pc_J0_length_8abf5 h3).2
    dsimp only at hf p3
    obtain ⟨⟨r4, S4⟩, hf4, hf⟩ := m_calE hf
    cases hf
    have hf : f_J1_indexOf_4cfef_0 x0 x1 0 r3 S = some (r4, S4) := hf4
    unfold f_J1_indexOf_4cfef_0 at hf
    obtain ⟨r5, h5, hf⟩ := m_calR hf (fun _ h => ro_J1_canEncode_9a6ad h)
    dsimp only at hf
    have r51 : r5 = 1 := by
      have h5 : f_J1_canEncode_9a6ad_0 x1 S = some (r5, S) := h5
      unfold f_J1_canEncode_9a6ad_0 at h5
      rcases m_ifE h5 with ⟨c2, h5⟩ | ⟨c2, h5⟩
      · replace c2 := ti_ltP (a := x1) (b := (0 : Int32)) c2 rfl rfl
        omega
      · rcases m_ifE h5 with ⟨c3, h5⟩ | ⟨c3, h5⟩
        · replace c3 := ti_ltP (a := (255 : Int32)) (b := x1) c3 (show (255 : Int32).toInt = 255 from rfl) rfl
          omega
        · unfold f_J1_canEncode_9a6ad_16 at h5
          obtain ⟨-, h5⟩ := m_chkE h5
          cases h5
          rfl
    rw [r51] at hf
    rcases m_ifE hf with ⟨c2, hf⟩ | ⟨c2, hf⟩
    · exact absurd c2 (by decide)
    · obtain ⟨v2, e2, hf⟩ := m_bndE hf
      obtain ⟨-, hf⟩ := m_chkE hf
      obtain ⟨v3, e3, hf⟩ := m_bndE hf
      obtain ⟨v4, e4, hf⟩ := m_bndE hf
      have e2' : v2 = 0 := by rw [e2]; rfl
      have hl := (str_all x0 hk).2.1
      have hl2 := (str_all x0 hk).1
      have hl3 := str_len hk
      have t3 : v3.toInt = ((strL x0).length : Int) := by
        rw [e3, hl3]
        have key : ∀ n : Nat, n ≤ 40 → (Int32.ofNat n).toInt = (n : Int) := by decide +kernel
        exact key _ (by omega)
      have e4' : v4.toInt = ((strL x0).length : Int) := by
        rw [e4]
        split <;> omega
      rcases m_ifE hf with ⟨c3, hf⟩ | ⟨c3, hf⟩
      · obtain ⟨⟨r6, S6⟩, hf6, hf⟩ := m_calE hf
        cases hf
        have hf : f_J1_indexOfChar_4cfef_0 x0 x1 v2 v4 S = some (r6, S6) := hf6
        unfold f_J1_indexOfChar_4cfef_0 at hf
        obtain ⟨v7, e7, hf⟩ := m_bndE hf
        have e8 : v7 = x1 := by
          have hx : x1 = nI x1.toInt.toNat := by
            apply Int32.toInt_inj.1
            rw [nI_toInt (by omega)]
            omega
          rw [e7]
          rw [hx]
          exact i8_all _ (by omega)
        rw [e2', e8] at hf
        have g := p_idx (x0 := x0) (x3 := v4) (x4 := x1) (by omega) mFuel 0 (by omega) (fun i i1 i2 => by omega) hf
        rw [e4'] at g
        exact g
      · replace c3 := ti_ltN (a := v2) (b := v4) c3 rfl rfl
        rw [e2'] at c3
        omega
theorem pc_X11_kindOf {x0 : Int32} (hf : f_X11_kindOf x0 S = some o) : (0 ≤ x0.toInt ∧ x0.toInt ≤ 127) → o.1.toInt = kO x0.toInt := by
  intro h0
  have hf : f_X11_kindOf_0 x0 S = some o := hf
  unfold f_X11_kindOf_0 at hf
  obtain ⟨-, hf⟩ := m_chkE hf
  obtain ⟨⟨r1, S1⟩, h1, hf⟩ := m_calE hf
  have p1 := p_indexOf h0 (by decide) (by decide) h1
  dsimp only at p1 hf
  obtain ⟨v2, e2, hf⟩ := m_bndE hf
  cases hf
  have hl : ((strL 9).length : Int) = 6 := rfl
  rw [hl] at p1
  have t2 : v2.toInt = r1.toInt + 1 := ti_add e2 rfl (show (1 : Int32).toInt = 1 from rfl) (by omega) (by omega)
  show v2.toInt = _
  rw [t2]
  have s0 : (strL 9).getD 0 0 = 80 := rfl
  have s1 : (strL 9).getD 1 0 = 78 := rfl
  have s2 : (strL 9).getD 2 0 = 66 := rfl
  have s3 : (strL 9).getD 3 0 = 82 := rfl
  have s4 : (strL 9).getD 4 0 = 81 := rfl
  have s5 : (strL 9).getD 5 0 = 75 := rfl
  unfold kO
  rcases p1 with ⟨a, b⟩ | ⟨a1, a2, a3, a4⟩
  · have b0 := b 0 (by decide) (by decide)
    have b1 := b 1 (by decide) (by decide)
    have b2 := b 2 (by decide) (by decide)
    have b3 := b 3 (by decide) (by decide)
    have b4 := b 4 (by decide) (by decide)
    have b5 := b 5 (by decide) (by decide)
    rw [show Int.toNat 0 = 0 from rfl, s0] at b0
    rw [show Int.toNat 1 = 1 from rfl, s1] at b1
    rw [show Int.toNat 2 = 2 from rfl, s2] at b2
    rw [show Int.toNat 3 = 3 from rfl, s3] at b3
    rw [show Int.toNat 4 = 4 from rfl, s4] at b4
    rw [show Int.toNat 5 = 5 from rfl, s5] at b5
    omega
  · have e : r1.toInt = 0 ∨ r1.toInt = 1 ∨ r1.toInt = 2 ∨ r1.toInt = 3 ∨ r1.toInt = 4 ∨ r1.toInt = 5 := by omega
    rcases e with e | e | e | e | e | e <;> rw [e] at a3 ⊢
    · rw [show Int.toNat 0 = 0 from rfl, s0] at a3; omega
    · rw [show Int.toNat 1 = 1 from rfl, s1] at a3; omega
    · rw [show Int.toNat 2 = 2 from rfl, s2] at a3; omega
    · rw [show Int.toNat 3 = 3 from rfl, s3] at a3; omega
    · rw [show Int.toNat 4 = 4 from rfl, s4] at a3; omega
    · rw [show Int.toNat 5 = 5 from rfl, s5] at a3; omega
end KOF
