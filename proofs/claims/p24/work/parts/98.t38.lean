section
theorem nm_u {ch : Int → Int} {a b c : Int} (h : NM ch a b) (g : NM ch a c) : b = c := by
  obtain ⟨h1, h2, h3⟩ := h
  obtain ⟨g1, g2, g3⟩ := g
  rcases Int.lt_trichotomy b c with l | l | l
  · exact absurd (g2 b h1 l) h3
  · exact l
  · exact absurd (h2 c g1 l) g3
/-- a tag that stands at p is not sound, at f -/
noncomputable def TPf (ch : Int → Int) (N p f : Int) : Prop := ∃ n0 n1, BL ch (p + 1) n0 ∧ NM ch n0 n1 ∧ ((n0 = n1 ∧ f = n0) ∨ (n0 < n1 ∧ ∃ q, BL ch n1 q ∧ ((ch q ≠ 34 ∧ f = q) ∨ (ch q = 34 ∧ (((vlP ch N 2001 (q + 1) []).1 = false ∧ f = (vlP ch N 2001 (q + 1) []).2.1) ∨ ((vlP ch N 2001 (q + 1) []).1 = true ∧ ∃ e, BL ch (vlP ch N 2001 (q + 1) []).2.1 e ∧ ch e ≠ 93 ∧ f = e))))))
/-- a tag that stands at p ends at e, with the name u and the value w -/
noncomputable def TPk (ch : Int → Int) (N p e : Int) (u w : List Int) : Prop := ∃ n0 n1 q, BL ch (p + 1) n0 ∧ NM ch n0 n1 ∧ n0 < n1 ∧ BL ch n1 q ∧ ch q = 34 ∧ (vlP ch N 2001 (q + 1) []).1 = true ∧ BL ch (vlP ch N 2001 (q + 1) []).2.1 e ∧ ch e = 93 ∧ u = wr ch n0 (n1 - n0).toNat ∧ w = (vlP ch N 2001 (q + 1) []).2.2
section TPU
variable {ch : Int → Int} {N p f f' e e' : Int} {u w u' w' : List Int}
theorem tpk_u (h : TPk ch N p e u w) (g : TPk ch N p e' u' w') : e = e' ∧ u = u' ∧ w = w' := by
  obtain ⟨n0, n1, q, h1, h2, h3, h4, h5, h6, h7, h8, h9, h10⟩ := h
  obtain ⟨m0, m1, r, g1, g2, g3, g4, g5, g6, g7, g8, g9, g10⟩ := g
  have e1 := bl_u h1 g1
  subst e1
  have e2 := nm_u h2 g2
  subst e2
  have e3 := bl_u h4 g4
  subst e3
  exact ⟨bl_u h7 g7, h9.trans g9.symm, h10.trans g10.symm⟩
theorem tpf_u (h : TPf ch N p f) (g : TPf ch N p f') : f = f' := by
  obtain ⟨n0, n1, h1, h2, h3⟩ := h
  obtain ⟨m0, m1, g1, g2, g3⟩ := g
  have e1 := bl_u h1 g1
  subst e1
  have e2 := nm_u h2 g2
  subst e2
  rcases h3 with ⟨a1, a2⟩ | ⟨a1, q, a2, a3⟩ <;> rcases g3 with ⟨b1, b2⟩ | ⟨b1, r, b2, b3⟩
  · rw [a2, b2]
  · omega
  · omega
  · have e3 := bl_u a2 b2
    subst e3
    rcases a3 with ⟨c1, c2⟩ | ⟨c1, c2⟩ <;> rcases b3 with ⟨d1, d2⟩ | ⟨d1, d2⟩
    · rw [c2, d2]
    · exact absurd d1 c1
    · exact absurd c1 d1
    · rcases c2 with ⟨c2, c3⟩ | ⟨c2, e, c3, c4, c5⟩ <;> rcases d2 with ⟨d2, d3⟩ | ⟨d2, e', d3, d4, d5⟩
      · rw [c3, d3]
      · rw [c2] at d2; cases d2
      · rw [c2] at d2; cases d2
      · rw [c5, d5]; exact bl_u c3 d3
theorem tp_x (h : TPf ch N p f) (g : TPk ch N p e u w) : False := by
  obtain ⟨n0, n1, h1, h2, h3⟩ := h
  obtain ⟨m0, m1, r, g1, g2, g3, g4, g5, g6, g7, g8, g9, g10⟩ := g
  have e1 := bl_u h1 g1
  subst e1
  have e2 := nm_u h2 g2
  subst e2
  rcases h3 with ⟨a1, a2⟩ | ⟨a1, q, a2, a3⟩
  · omega
  · have e3 := bl_u a2 g4
    subst e3
    rcases a3 with ⟨c1, c2⟩ | ⟨c1, c2⟩
    · exact absurd g5 c1
    · rcases c2 with ⟨c2, c3⟩ | ⟨c2, e9, c3, c4, c5⟩
      · rw [c2] at g6; cases g6
      · have e4 := bl_u c3 g7
        rw [e4] at c4
        exact absurd g8 c4
end TPU
section RTF
variable {I0 I : Nat → Int32} {A0 A : Nat → Nat → Int32} {ch : Int → Int} {N p g k : Int} {o : Int32 × MS} {x1 x2 x3 x4 : Int32}
/-- the reference's tag, up to the closing quote -/
theorem rt_23 (hN : N ≤ 2000) (h : TGi I0 A0 I A ch N p g k [] []) (hpN : p ≤ N) (h1 : x1.toInt = g) (h3 : x3.toInt = k) (h4 : x4.toInt = 0 ∨ x4.toInt = 1) (h48 : x4.toInt = 1 ↔ k = 8) (hf : f_readTag_23 x1 x2 x3 x4 I A = some o) : (∃ f, TPf ch N p f ∧ o.1.toInt = 10000 + f) ∨ (∃ n0 n1 q0 q I1 A1 n, ∃ y5 y6 : Int32, BL ch (p + 1) n0 ∧ NM ch n0 n1 ∧ n0 < n1 ∧ BL ch n1 q0 ∧ ch q0 = 34 ∧ (vlP ch N 2001 (q0 + 1) []).1 = true ∧ q + 1 = (vlP ch N 2001 (q0 + 1) []).2.1 ∧ q < N ∧ ch q = 34 ∧ y5.toInt = n1 - n0 ∧ y6.toInt = ((vlP ch N 2001 (q0 + 1) []).2.2.length : Int) ∧ TGi I0 A0 I1 A1 ch N q g k (wr ch n0 (n1 - n0).toNat) (vlP ch N 2001 (q0 + 1) []).2.2 ∧ f_readTag_175s (f_readTag_175 n) x1 x2 x3 x4 y5 y6 I1 A1 = some o) := by
  obtain ⟨hIA, ⟨hc, hn⟩, ⟨h37, hp⟩, -, -, -, -, -, ⟨hg, hk0, hk8⟩, hcb⟩ := id h
  have z0 : (0 : Int32).toInt = 0 := rfl
  have z1 : (1 : Int32).toInt = 1 := rfl
  have run : ∀ n0 I1 A1, BL ch (p + 1) n0 → n0 ≤ 2003 → 0 ≤ n0 → TGi I0 A0 I1 A1 ch N n0 g k [] [] → nmC (ch n0) → f_readTag_71 mFuel x1 x2 x3 x4 0 I1 A1 = some o → (∃ f, TPf ch N p f ∧ o.1.toInt = 10000 + f) ∨ (∃ n0 n1 q0 q I1 A1 n, ∃ y5 y6 : Int32, BL ch (p + 1) n0 ∧ NM ch n0 n1 ∧ n0 < n1 ∧ BL ch n1 q0 ∧ ch q0 = 34 ∧ (vlP ch N 2001 (q0 + 1) []).1 = true ∧ q + 1 = (vlP ch N 2001 (q0 + 1) []).2.1 ∧ q < N ∧ ch q = 34 ∧ y5.toInt = n1 - n0 ∧ y6.toInt = ((vlP ch N 2001 (q0 + 1) []).2.2.length : Int) ∧ TGi I0 A0 I1 A1 ch N q g k (wr ch n0 (n1 - n0).toNat) (vlP ch N 2001 (q0 + 1) []).2.2 ∧ f_readTag_175s (f_readTag_175 n) x1 x2 x3 x4 y5 y6 I1 A1 = some o) := by
    intro n0 I1 A1 hb hle h0 G hs hf
    obtain ⟨n1, q0, I2, A2, y, g1, g2, g3, g4, g5⟩ := rt_71 (a := n0) hN h0 h1 h3 h4 h48 mFuel 0 I1 A1 0 rfl (by rw [show n0 + ((0 : Nat) : Int) = n0 by omega]; exact G) (fun j j0 j1 => by omega) (by omega) hf
    have lt : n0 < n1 := by
      have := g1.1
      by_cases e : n0 = n1
      · rw [e] at hs; exact absurd hs g1.2.2
      · omega
    rcases g5 with ⟨a1, a2⟩ | ⟨a1, I8, a2, a3⟩
    · exact Or.inl ⟨q0, ⟨n0, n1, hb, g1, Or.inr ⟨lt, q0, g2, Or.inl ⟨a1, rfl⟩⟩⟩, a2⟩
    · have q0N : q0 < N := by
        by_cases e : q0 < N
        · exact e
        · have : ch q0 = 0 := by rw [← hc]; exact tx_out (by omega)
          omega
      have q00 : 0 ≤ q0 := g3.2.2.1.2.1
      have g9 := rt_175 (x2 := x2) hN h1 h3 h4 h48 mFuel 0 I8 A2 2001 (q0 + 1) [] rfl a2 (by omega) (by decide) (by omega) (by show (0 : Int) ≤ q0 + 1; omega) a3
      rcases g9 with ⟨b1, b2⟩ | ⟨b1, q, I9, A9, n9, y6, b2, b3, b4, b5, b6, b7⟩
      · exact Or.inl ⟨_, ⟨n0, n1, hb, g1, Or.inr ⟨lt, q0, g2, Or.inr ⟨a1, Or.inl ⟨b1, rfl⟩⟩⟩⟩, b2⟩
      · exact Or.inr ⟨n0, n1, q0, q, I9, A9, n9, y, y6, hb, g1, lt, g2, a1, b1, b2, b3, b4, g4, b5, b6, b7⟩
  unfold f_readTag_23 at hf
  obtain ⟨v1, e_v1, hf⟩ := m_bndE hf
  have t_v1 : v1.toInt = (I 37).toInt + 1 := ti_add e_v1 rfl (show (1 : Int32).toInt = 1 from rfl) (by omega) (by omega)
  obtain ⟨I2, e_I2, hf⟩ := m_bndE hf
  have G2 : TGi I0 A0 I2 A ch N (p + 1) g k [] [] := tgi_at h e_I2 (by omega) (by omega)
  obtain ⟨⟨r3, Ic3, Ac3⟩, h_r3, hf⟩ := m_clE hf
  dsimp only at hf
  obtain ⟨n0, g1, G3, g3⟩ := tgi_bl G2 hN h_r3
  dsimp only at G3
  have n0b := G3.2.2.1
  have n0g := g1.1
  obtain ⟨r4, h_r4, hf⟩ := m_clR hf (fun _ h => rro_look h)
  have p_r4 := pc_look h_r4
  dsimp only at p_r4
  have q4 := tgi_lk G3 h_r4
  dsimp only at q4
  clear p_r4
  obtain ⟨r5, h_r5, hf⟩ := m_clR hf (fun _ h => rro_isLetter h)
  have p_r5 := pc_isLetter h_r5
  dsimp only at p_r5
  rw [q4] at p_r5
  rcases m_ifE hf with ⟨c1, hf⟩ | ⟨c1, hf⟩
  · skip
    replace c1 := ti_eqP (a := r5) (b := (0 : Int32)) c1 rfl (show (0 : Int32).toInt = 0 from rfl)
    obtain ⟨r6, h_r6, hf⟩ := m_clR hf (fun _ h => rro_look h)
    have p_r6 := pc_look h_r6
    dsimp only at p_r6
    have q6 := tgi_lk G3 h_r6
    dsimp only at q6
    clear p_r6
    obtain ⟨r7, h_r7, hf⟩ := m_clR hf (fun _ h => rro_isDigit h)
    have p_r7 := pc_isDigit h_r7
    dsimp only at p_r7
    rw [q6] at p_r7
    rcases m_ifE hf with ⟨c2, hf⟩ | ⟨c2, hf⟩
    · skip
      replace c2 := ti_eqP (a := r7) (b := (0 : Int32)) c2 rfl (show (0 : Int32).toInt = 0 from rfl)
      obtain ⟨r8, h_r8, hf⟩ := m_clR hf (fun _ h => rro_fault h)
      have q8 := v_fault (x1 := 1) (x2 := Ic3 37) (by decide) (by omega) h_r8
      dsimp only at q8
      cases hf
      try dsimp only
      refine Or.inl ⟨n0, ⟨n0, n0, g1, ⟨Int.le_refl _, fun j j0 j1 => by omega, fun gg => ?_⟩, Or.inl ⟨rfl, rfl⟩⟩, by omega⟩
      rcases gg with gg | gg
      · have := p_r5.2.2 gg; omega
      · have := p_r7.2.2 gg; omega
    · skip
      replace c2 := ti_eqN (a := r7) (b := (0 : Int32)) c2 rfl (show (0 : Int32).toInt = 0 from rfl)
      exact run n0 Ic3 Ac3 g1 (by omega) (by omega) G3 (Or.inr (p_r7.2.1 (by omega))) hf
  · skip
    replace c1 := ti_eqN (a := r5) (b := (0 : Int32)) c1 rfl (show (0 : Int32).toInt = 0 from rfl)
    exact run n0 Ic3 Ac3 g1 (by omega) (by omega) G3 (Or.inl (p_r5.2.1 (by omega))) hf
/-- the position with which the reference's game g begins -/
noncomputable def SPo (A : Nat → Nat → Int32) (g : Int) (m : Int → Int) (sd rt ps nb : Int) : Prop := (∀ s : Int, 0 ≤ s → s < 64 → (A 16 (64 * g + s).toNat).toInt = m s) ∧ (A 17 (5 * g).toNat).toInt = sd ∧ (A 17 (5 * g + 1).toNat).toInt = rt ∧ (A 17 (5 * g + 2).toNat).toInt = ps ∧ (A 17 (5 * g + 4).toNat).toInt = nb
/-- the other game's position stays -/
noncomputable def SPx (A A' : Nat → Nat → Int32) (g : Int) : Prop := (∀ i : Nat, ((i : Int) < 64 * g ∨ 64 * g + 64 ≤ (i : Int)) → A' 16 i = A 16 i) ∧ (∀ i : Nat, ((i : Int) < 5 * g ∨ 5 * g + 5 ≤ (i : Int)) → A' 17 i = A 17 i) ∧ ∀ j, j ≠ 16 → j ≠ 17 → A' j = A j
theorem st_2 {m : Int → Int} (hg : g = 0 ∨ g = 1) (h1 : x1.toInt = g) : ∀ (n : Nat) (x2 : Int32) (A : Nat → Nat → Int32), mR A = m → (0 ≤ x2.toInt ∧ x2.toInt ≤ 64) → (∀ s : Int, 0 ≤ s → s < x2.toInt → (A 16 (64 * g + s).toNat).toInt = m s) → SPx A0 A g → f_start_2 n x1 x2 I A = some o → o.2.1 = I ∧ SPo o.2.2 g m (I 25).toInt (I 26).toInt (I 27).toInt (I 29).toInt ∧ SPx A0 o.2.2 g := by
  intro n
  induction n with
  | zero => intro x2 A _ _ _ _ hf; cases hf
  | succ n ih =>
    intro x2 A hm h2 hs hx hf
    have hf : f_start_2s (f_start_2 n) x1 x2 I A = some o := hf
    obtain ⟨hx1, hx2, hx3⟩ := hx
    have step17 : ∀ {B B' : Nat → Nat → Int32} {x v : Int32}, B' = va_up B 17 (upd (B 17) (x).toNatClampNeg v) → (∀ j, j ≠ 17 → B' j = B j) ∧ (∀ i : Nat, i ≠ x.toInt.toNat → B' 17 i = B 17 i) ∧ B' 17 x.toInt.toNat = v := fun {B B' x v} e => by
      subst e
      refine ⟨fun j hj => va_up_ne _ _ hj, fun i hi => ?_, ?_⟩
      · rw [va_up_self]; exact upd_ne hi
      · rw [va_up_self]; exact upd_self
    unfold f_start_2s at hf
    rcases m_ifE hf with ⟨c1, hf⟩ | ⟨c1, hf⟩
    · skip
      replace c1 := ti_leP (a := (64 : Int32)) (b := x2) c1 (show (64 : Int32).toInt = 64 from rfl) rfl
      obtain ⟨v1, e_v1, hf⟩ := m_bndE hf
      have t_v1 : v1.toInt = 5 * x1.toInt := ti_mul e_v1 (show (5 : Int32).toInt = 5 from rfl) rfl (by omega) (by omega)
      obtain ⟨-, hf⟩ := m_chkE hf
      obtain ⟨A2, e_A2, hf⟩ := m_bndE hf
      obtain ⟨a21, a22, a23⟩ := step17 e_A2
      obtain ⟨v3, e_v3, hf⟩ := m_bndE hf
      have t_v3 : v3.toInt = 5 * x1.toInt := ti_mul e_v3 (show (5 : Int32).toInt = 5 from rfl) rfl (by omega) (by omega)
      obtain ⟨v4, e_v4, hf⟩ := m_bndE hf
      have t_v4 : v4.toInt = v3.toInt + 1 := ti_add e_v4 rfl (show (1 : Int32).toInt = 1 from rfl) (by omega) (by omega)
      obtain ⟨-, hf⟩ := m_chkE hf
      obtain ⟨A5, e_A5, hf⟩ := m_bndE hf
      obtain ⟨a51, a52, a53⟩ := step17 e_A5
      obtain ⟨v6, e_v6, hf⟩ := m_bndE hf
      have t_v6 : v6.toInt = 5 * x1.toInt := ti_mul e_v6 (show (5 : Int32).toInt = 5 from rfl) rfl (by omega) (by omega)
      obtain ⟨v7, e_v7, hf⟩ := m_bndE hf
      have t_v7 : v7.toInt = v6.toInt + 2 := ti_add e_v7 rfl (show (2 : Int32).toInt = 2 from rfl) (by omega) (by omega)
      obtain ⟨-, hf⟩ := m_chkE hf
      obtain ⟨A8, e_A8, hf⟩ := m_bndE hf
      obtain ⟨a81, a82, a83⟩ := step17 e_A8
      obtain ⟨v9, e_v9, hf⟩ := m_bndE hf
      have t_v9 : v9.toInt = 5 * x1.toInt := ti_mul e_v9 (show (5 : Int32).toInt = 5 from rfl) rfl (by omega) (by omega)
      obtain ⟨v10, e_v10, hf⟩ := m_bndE hf
      have t_v10 : v10.toInt = v9.toInt + 3 := ti_add e_v10 rfl (show (3 : Int32).toInt = 3 from rfl) (by omega) (by omega)
      obtain ⟨-, hf⟩ := m_chkE hf
      obtain ⟨A11, e_A11, hf⟩ := m_bndE hf
      obtain ⟨b11, b12, b13⟩ := step17 e_A11
      obtain ⟨v12, e_v12, hf⟩ := m_bndE hf
      have t_v12 : v12.toInt = 5 * x1.toInt := ti_mul e_v12 (show (5 : Int32).toInt = 5 from rfl) rfl (by omega) (by omega)
      obtain ⟨v13, e_v13, hf⟩ := m_bndE hf
      have t_v13 : v13.toInt = v12.toInt + 4 := ti_add e_v13 rfl (show (4 : Int32).toInt = 4 from rfl) (by omega) (by omega)
      obtain ⟨-, hf⟩ := m_chkE hf
      obtain ⟨A14, e_A14, hf⟩ := m_bndE hf
      obtain ⟨b41, b42, b43⟩ := step17 e_A14
      have e1 : v1.toInt = 5 * g := by omega
      have e4 : v4.toInt = 5 * g + 1 := by omega
      have e7 : v7.toInt = 5 * g + 2 := by omega
      have e10 : v10.toInt = 5 * g + 3 := by omega
      have e13 : v13.toInt = 5 * g + 4 := by omega
      rw [e1] at a22 a23
      rw [e4] at a52 a53
      rw [e7] at a82 a83
      rw [e10] at b12 b13
      rw [e13] at b42 b43
      have k16 : A14 16 = A 16 := by rw [b41 16 (by decide), b11 16 (by decide), a81 16 (by decide), a51 16 (by decide), a21 16 (by decide)]
      cases hf
      try dsimp only
      refine ⟨rfl, ⟨fun s s0 s1 => by rw [k16]; exact hs s s0 (by omega), ?_, ?_, ?_, ?_⟩, fun i hi => by rw [k16]; exact hx1 i hi, fun i hi => ?_, fun j j1 j2 => ?_⟩
      · rw [b42 _ (by omega), b12 _ (by omega), a82 _ (by omega), a52 _ (by omega), a23]
      · rw [b42 _ (by omega), b12 _ (by omega), a82 _ (by omega), a53]
      · rw [b42 _ (by omega), b12 _ (by omega), a83]
      · rw [b43]
      · rw [b42 _ (by omega), b12 _ (by omega), a82 _ (by omega), a52 _ (by omega), a22 _ (by omega)]; exact hx2 i hi
      · rw [b41 j j2, b11 j j2, a81 j j2, a51 j j2, a21 j j2]; exact hx3 j j1 j2
    · skip
      replace c1 := ti_leN (a := (64 : Int32)) (b := x2) c1 (show (64 : Int32).toInt = 64 from rfl) rfl
      obtain ⟨v15, e_v15, hf⟩ := m_bndE hf
      have t_v15 : v15.toInt = 64 * x1.toInt := ti_mul e_v15 (show (64 : Int32).toInt = 64 from rfl) rfl (by omega) (by omega)
      obtain ⟨v16, e_v16, hf⟩ := m_bndE hf
      have t_v16 : v16.toInt = v15.toInt + x2.toInt := ti_add e_v16 rfl rfl (by omega) (by omega)
      obtain ⟨-, hf⟩ := m_chkE hf
      obtain ⟨v17, e_v17, hf⟩ := m_bndE hf
      obtain ⟨-, hf⟩ := m_chkE hf
      obtain ⟨A18, e_A18, hf⟩ := m_bndE hf
      obtain ⟨v19, e_v19, hf⟩ := m_bndE hf
      have t_v19 : v19.toInt = x2.toInt + 1 := ti_add e_v19 rfl (show (1 : Int32).toInt = 1 from rfl) (by omega) (by omega)
      have q17 := mR_at e_v17 (by omega) (by omega)
      rw [hm] at q17
      have e16 : v16.toInt = 64 * g + x2.toInt := by omega
      have xn : v16.toNatClampNeg = (64 * g + x2.toInt).toNat := by rw [← e16]; rfl
      have o16 : ∀ j, j ≠ 16 → A18 j = A j := fun j hj => by rw [e_A18]; exact va_up_ne _ _ hj
      have n16 : A18 16 = upd (A 16) v16.toNatClampNeg v17 := by rw [e_A18]; exact va_up_self _ _ _
      refine ih v19 A18 ((mR_fr (o16 24 (by decide))).trans hm) (by omega) (fun s s0 s1 => ?_) ⟨fun i hi => ?_, fun i hi => by rw [o16 17 (by decide)]; exact hx2 i hi, fun j j1 j2 => (o16 j j1).trans (hx3 j j1 j2)⟩ hf
      · rw [n16]
        by_cases e : s = x2.toInt
        · rw [e, ← xn, upd_self]; exact q17
        · rw [upd_ne (by rw [xn]; omega)]; exact hs s s0 (by omega)
      · rw [n16, upd_ne (by rw [xn]; omega)]; exact hx1 i hi
theorem v_start {m : Int → Int} (hg : g = 0 ∨ g = 1) (h1 : x1.toInt = g) (hm : mR A = m) (hf : f_start x1 I A = some o) : o.2.1 = I ∧ SPo o.2.2 g m (I 25).toInt (I 26).toInt (I 27).toInt (I 29).toInt ∧ SPx A o.2.2 g := st_2 (A0 := A) hg h1 mFuel 0 A hm (by decide) (fun s s0 s1 => by have z : (0 : Int32).toInt = 0 := rfl; omega) ⟨fun _ _ => rfl, fun _ _ => rfl, fun _ _ _ => rfl⟩ hf
end RTF
end
section
theorem gD_l {α : Type} {d : α} : ∀ (l m : List α) (n : Nat), n < l.length → (l ++ m).getD n d = l.getD n d
  | [], _, _, h => absurd h (Nat.not_lt_zero _)
  | _ :: _, _, 0, _ => rfl
  | _ :: l, m, n + 1, h => gD_l l m n (Nat.lt_of_succ_lt_succ h)
theorem gD_r {α : Type} {d : α} : ∀ (l : List α) (a : α), (l ++ [a]).getD l.length d = a
  | [], _ => rfl
  | _ :: l, a => gD_r l a
noncomputable def VLr (A : Nat → Nat → Int32) (g k : Int) (w : List Int) : Prop := (A 21 (8 * g + k).toNat).toInt = (w.length : Int) ∧ w.length ≤ 96 ∧ ∀ i : Int, 0 ≤ i → i < (w.length : Int) → (A 22 (768 * g + 96 * k + i).toNat).toInt = wA w i
noncomputable def nmL (L : List (List Int × List Int)) (i : Int) : List Int := (L.getD i.toNat ([], [])).1
noncomputable def vlL (L : List (List Int × List Int)) (i : Int) : List Int := (L.getD i.toNat ([], [])).2
/-- the tags of the reference's game g -/
noncomputable def TGr (A : Nat → Nat → Int32) (g : Int) (L : List (List Int × List Int)) : Prop := (A 18 g.toNat).toInt = (L.length : Int) ∧ L.length ≤ 8 ∧ ∀ i : Int, 0 ≤ i → i < (L.length : Int) → NMr A g i (nmL L i) ∧ VLr A g i (vlL L i)
/-- a tag is too much -/
noncomputable def RF2 (L : List (List Int × List Int)) (u w : List Int) : Prop := (L.length : Int) = 8 ∨ 12 < (u.length : Int) ∨ 96 < (w.length : Int) ∨ ∃ i, 0 ≤ i ∧ i < (L.length : Int) ∧ nmL L i = u
/-- all but game g stays -/
noncomputable def TFx (A A' : Nat → Nat → Int32) (g : Int) : Prop := (∀ i : Nat, (i : Int) ≠ g → A' 18 i = A 18 i) ∧ (∀ i : Nat, ((i : Int) < 8 * g ∨ 8 * g + 8 ≤ (i : Int)) → A' 19 i = A 19 i ∧ A' 21 i = A 21 i) ∧ (∀ i : Nat, ((i : Int) < 96 * g ∨ 96 * g + 96 ≤ (i : Int)) → A' 20 i = A 20 i) ∧ (∀ i : Nat, ((i : Int) < 768 * g ∨ 768 * g + 768 ≤ (i : Int)) → A' 22 i = A 22 i) ∧ (∀ i : Nat, ((i : Int) < 64 * g ∨ 64 * g + 64 ≤ (i : Int)) → A' 16 i = A 16 i) ∧ (∀ i : Nat, ((i : Int) < 5 * g ∨ 5 * g + 5 ≤ (i : Int)) → A' 17 i = A 17 i) ∧ ∀ j, (j < 16 ∨ 24 < j ∨ j = 23) → A' j = A j
/-- how the reference's tag ends, once its ']' is read -/
noncomputable def TEo (A0 : Nat → Nat → Int32) (I0 : Nat → Int32) (ch : Int → Int) (g : Int) (L : List (List Int × List Int)) (u w : List Int) (p e : Int) (o : Int32 × MS) : Prop := (RF2 L u w ∧ o.1.toInt = 20000 + p) ∨ (¬ RF2 L u w ∧ u = strL 0 ∧ (∀ m sd rt ps nb, ¬ FENp (wA w) (w.length : Int) m sd rt ps nb) ∧ o.1.toInt = 30000 + p) ∨ (¬ RF2 L u w ∧ o.1.toInt = 0 ∧ (o.2.1 37).toInt = e ∧ TGr o.2.2 g (L ++ [(u, w)]) ∧ ((u ≠ strL 0 ∧ (∀ j, j ≠ 37 → o.2.1 j = I0 j) ∧ o.2.2 16 = A0 16 ∧ o.2.2 17 = A0 17) ∨ (u = strL 0 ∧ (∀ j, (j < 25 ∨ (29 < j ∧ j ≠ 37 ∧ j ≠ 38 ∧ j ≠ 39)) → o.2.1 j = I0 j) ∧ ∃ m sd rt ps nb, FENp (wA w) (w.length : Int) m sd rt ps nb ∧ MBd m ∧ SPo o.2.2 g m sd rt ps nb)))
section TEN
variable {I0 I : Nat → Int32} {A0 A A1 : Nat → Nat → Int32} {ch : Int → Int} {N p q g k : Int} {u w : List Int} {o : Int32 × MS} {x1 x2 x3 x4 x5 x6 : Int32} {L : List (List Int × List Int)}
theorem nmL_o {i : Int} (h0 : 0 ≤ i) (h : i < (L.length : Int)) : nmL (L ++ [(u, w)]) i = nmL L i ∧ vlL (L ++ [(u, w)]) i = vlL L i := by
  unfold nmL vlL
  rw [gD_l _ _ _ (by omega)]
  exact ⟨rfl, rfl⟩
theorem nmL_n : nmL (L ++ [(u, w)]) (L.length : Int) = u ∧ vlL (L ++ [(u, w)]) (L.length : Int) = w := by
  unfold nmL vlL
  rw [Int.toNat_natCast, gD_r]
  exact ⟨rfl, rfl⟩
/-- the tables with a tag more, but for their count -/
theorem tgr_nm (h : TGr A0 g L) (hg : g = 0 ∨ g = 1) (hk : k = (L.length : Int)) (h8 : k ≠ 8) (a19 : ∀ i : Nat, (i : Int) ≠ 8 * g + k → A1 19 i = A0 19 i) (b19 : (A1 19 (8 * g + k).toNat).toInt = (u.length : Int)) (hu : (u.length : Int) ≤ 12) (a21 : ∀ i : Nat, (i : Int) ≠ 8 * g + k → A1 21 i = A0 21 i) (b21 : (A1 21 (8 * g + k).toNat).toInt = (w.length : Int)) (hw : (w.length : Int) ≤ 96) (a20 : ∀ i : Nat, ((i : Int) < 96 * g + 12 * k ∨ 96 * g + 12 * k + 12 ≤ (i : Int)) → A1 20 i = A0 20 i) (a22 : ∀ i : Nat, ((i : Int) < 768 * g + 96 * k ∨ 768 * g + 96 * k + 96 ≤ (i : Int)) → A1 22 i = A0 22 i) (b20 : ∀ i : Int, 0 ≤ i → i < (u.length : Int) → i < 12 → (A1 20 (96 * g + 12 * k + i).toNat).toInt = wA u i) (b22 : ∀ i : Int, 0 ≤ i → i < (w.length : Int) → i < 96 → (A1 22 (768 * g + 96 * k + i).toNat).toInt = wA w i) : NMr A1 g k u ∧ VLr A1 g k w ∧ ∀ i : Int, 0 ≤ i → i < k → NMr A1 g i (nmL L i) ∧ VLr A1 g i (vlL L i) := by
  refine ⟨⟨b19, by omega, fun i i0 i1 => b20 i i0 i1 (by omega)⟩, ⟨b21, by omega, fun i i0 i1 => b22 i i0 i1 (by omega)⟩, fun i i0 i1 => ?_⟩
  have hl := h.2.1
  obtain ⟨⟨n1, n2, n3⟩, v1, v2, v3⟩ := h.2.2 i i0 (by omega)
  refine ⟨⟨by rw [a19 _ (by omega)]; exact n1, n2, fun j j0 j1 => by rw [a20 _ (by omega)]; exact n3 j j0 j1⟩, by rw [a21 _ (by omega)]; exact v1, v2, fun j j0 j1 => by rw [a22 _ (by omega)]; exact v3 j j0 j1⟩
theorem tgr_add {A2 : Nat → Nat → Int32} (hk : k = (L.length : Int)) (h8 : (L.length : Int) < 8) (h : NMr A1 g k u ∧ VLr A1 g k w ∧ ∀ i : Int, 0 ≤ i → i < k → NMr A1 g i (nmL L i) ∧ VLr A1 g i (vlL L i)) (e : ∀ j, (j = 19 ∨ j = 20 ∨ j = 21 ∨ j = 22) → A2 j = A1 j) (e18 : (A2 18 g.toNat).toInt = k + 1) : TGr A2 g (L ++ [(u, w)]) := by
  have ll : ((L ++ [(u, w)]).length : Int) = (L.length : Int) + 1 := by rw [List.length_append]; rfl
  have tr : ∀ {i : Int} {a b : List Int}, NMr A1 g i a ∧ VLr A1 g i b → NMr A2 g i a ∧ VLr A2 g i b := fun {i a b} h => by
    unfold NMr VLr at *
    rw [e 19 (by decide), e 20 (by decide), e 21 (by decide), e 22 (by decide)]
    exact h
  refine ⟨by rw [e18, ll, hk], by omega, fun i i0 i1 => ?_⟩
  rw [ll] at i1
  by_cases ei : i = (L.length : Int)
  · rw [ei, nmL_n.1, nmL_n.2, ← hk]
    exact tr ⟨h.1, h.2.1⟩
  · obtain ⟨e1, e2⟩ := nmL_o (u := u) (w := w) i0 (show i < (L.length : Int) by omega)
    rw [e1, e2]
    exact tr (h.2.2 i i0 (by omega))
theorem v_457 (hg : g = 0 ∨ g = 1) (h1 : x1.toInt = g) (h18 : (A 18 g.toNat).toInt = k) (hk : 0 ≤ k ∧ k < 8) (hf : f_readTag_457 x1 I A = some o) : o.1.toInt = 0 ∧ o.2.1 = I ∧ (∀ j, j ≠ 18 → o.2.2 j = A j) ∧ (o.2.2 18 g.toNat).toInt = k + 1 ∧ ∀ i : Nat, (i : Int) ≠ g → o.2.2 18 i = A 18 i := by
  have xn : x1.toNatClampNeg = g.toNat := by rw [← h1]; rfl
  have k1 : ∀ v : Int32, v = A 18 x1.toNatClampNeg → v.toInt = k := fun v e => by rw [e, xn]; exact h18
  unfold f_readTag_457 at hf
  obtain ⟨-, hf⟩ := m_chkE hf
  obtain ⟨v1, e_v1, hf⟩ := m_bndE hf
  have q1 := k1 v1 e_v1
  obtain ⟨v2, e_v2, hf⟩ := m_bndE hf
  have t_v2 : v2.toInt = v1.toInt + 1 := ti_add e_v2 rfl (show (1 : Int32).toInt = 1 from rfl) (by omega) (by omega)
  obtain ⟨-, hf⟩ := m_chkE hf
  obtain ⟨A3, e_A3, hf⟩ := m_bndE hf
  cases hf
  try dsimp only
  refine ⟨rfl, rfl, fun j hj => by rw [e_A3]; exact va_up_ne _ _ hj, ?_, fun i hi => ?_⟩
  · rw [e_A3, va_up_self, xn, upd_self]; omega
  · rw [e_A3, va_up_self, xn, upd_ne (by omega)]
end TEN
end
section
section TEE
variable {I0 I : Nat → Int32} {A0 A : Nat → Nat → Int32} {ch : Int → Int} {N p q g k : Int} {u w : List Int} {o : Int32 × MS} {x1 x2 x3 x4 x5 x6 : Int32} {L : List (List Int × List Int)}
/-- the reference's tag from its closing quote on -/
theorem rt_end {n : Nat} (hN : N ≤ 2000) (G : TGi I0 A0 I A ch N q g k u w) (hq : q < N) (h34 : ch q = 34) (hL : TGr A0 g L) (hkL : k = (L.length : Int)) (hw : ∀ i, 0 ≤ wA w i ∧ wA w i ≤ 127) (hn9 : (I0 29).toInt ≤ 1999) (h1 : x1.toInt = g) (h2 : x2.toInt = p) (hp : 0 ≤ p ∧ p ≤ 2000) (h3 : x3.toInt = k) (h4 : x4.toInt = 0 ∨ x4.toInt = 1) (h48 : x4.toInt = 1 ↔ k = 8) (h5 : x5.toInt = (u.length : Int)) (h6 : x6.toInt = (w.length : Int)) (hf : f_readTag_175s (f_readTag_175 n) x1 x2 x3 x4 x5 x6 I A = some o) : (∃ e, BL ch (q + 1) e ∧ ch e ≠ 93 ∧ o.1.toInt = 10000 + e) ∨ (∃ e, BL ch (q + 1) e ∧ ch e = 93 ∧ TEo A0 I0 ch g L u w p (e + 1) o) := by
  obtain ⟨hIA, ⟨hc, hn⟩, ⟨h37, hp0⟩, -, -, -, -, -, ⟨hg, hk0, hk8⟩, hcb⟩ := id G
  have z0 : (0 : Int32).toInt = 0 := rfl
  have z1 : (1 : Int32).toInt = 1 := rfl
  have z2 : (2 : Int32).toInt = 2 := rfl
  have z3 : (3 : Int32).toInt = 3 := rfl
  have f2 : ∀ {I1 : Nat → Int32} {A1 : Nat → Nat → Int32} {e : Int}, RF2 L u w → f_readTag_370 x2 I1 A1 = some o → TEo A0 I0 ch g L u w p e o := by
    intro I1 A1 e hr hf
    unfold f_readTag_370 at hf
    obtain ⟨⟨r1, I2, A2⟩, h_r1, hf⟩ := m_clE hf
    dsimp only at hf
    have q1 := v_fault (x1 := 2) (x2 := x2) (by decide) (by omega) h_r1
    dsimp only at q1
    cases hf
    exact Or.inl ⟨hr, show r1.toInt = 20000 + p by omega⟩
  have lw := (show (w.length : Int) ≥ 0 by omega)
  unfold f_readTag_175s at hf
  obtain ⟨r1, h_r1, hf⟩ := m_clR hf (fun _ h => rro_look h)
  have p_r1 := pc_look h_r1
  dsimp only at p_r1
  have q1 := tgi_lk G h_r1
  dsimp only at q1
  clear p_r1
  rcases m_ifE hf with ⟨c1, hf⟩ | ⟨c1, hf⟩
  · skip
    replace c1 := ti_eqP (a := r1) (b := (34 : Int32)) c1 rfl (show (34 : Int32).toInt = 34 from rfl)
    obtain ⟨v2, e_v2, hf⟩ := m_bndE hf
    have t_v2 : v2.toInt = (I 37).toInt + 1 := ti_add e_v2 rfl (show (1 : Int32).toInt = 1 from rfl) (by omega) (by omega)
    obtain ⟨I3, e_I3, hf⟩ := m_bndE hf
    have G3 : TGi I0 A0 I3 A ch N (q + 1) g k u w := tgi_at G e_I3 (by omega) (by omega)
    obtain ⟨⟨r4, Ic4, Ac4⟩, h_r4, hf⟩ := m_clE hf
    dsimp only at hf
    obtain ⟨e, g4, G4, g4'⟩ := tgi_bl G3 hN h_r4
    dsimp only at G4
    have e37 := G4.2.2.1
    obtain ⟨r5, h_r5, hf⟩ := m_clR hf (fun _ h => rro_look h)
    have p_r5 := pc_look h_r5
    dsimp only at p_r5
    have q5 := tgi_lk G4 h_r5
    dsimp only at q5
    clear p_r5
    rcases m_ifE hf with ⟨c2, hf⟩ | ⟨c2, hf⟩
    · skip
      replace c2 := ti_eqP (a := r5) (b := (93 : Int32)) c2 rfl (show (93 : Int32).toInt = 93 from rfl)
      obtain ⟨v6, e_v6, hf⟩ := m_bndE hf
      have t_v6 : v6.toInt = (Ic4 37).toInt + 1 := ti_add e_v6 rfl (show (1 : Int32).toInt = 1 from rfl) (by omega) (by omega)
      obtain ⟨I7, e_I7, hf⟩ := m_bndE hf
      have G7 : TGi I0 A0 I7 Ac4 ch N (e + 1) g k u w := tgi_at G4 e_I7 (by omega) (by omega)
      obtain ⟨⟨T7, K7⟩, -, ⟨h737, -⟩, i7, a7, a720, a722, a7k, -, -⟩ := id G7
      rcases m_ifE hf with ⟨c3, hf⟩ | ⟨c3, hf⟩
      · skip
        replace c3 := ti_eqP (a := x4) (b := (0 : Int32)) c3 rfl (show (0 : Int32).toInt = 0 from rfl)
        rcases m_ifE hf with ⟨c4, hf⟩ | ⟨c4, hf⟩
        · skip
          replace c4 := ti_ltP (a := (12 : Int32)) (b := x5) c4 (show (12 : Int32).toInt = 12 from rfl) rfl
          exact Or.inr ⟨e, g4, by omega, f2 (Or.inr (Or.inl (by omega))) hf⟩
        · skip
          replace c4 := ti_ltN (a := (12 : Int32)) (b := x5) c4 (show (12 : Int32).toInt = 12 from rfl) rfl
          rcases m_ifE hf with ⟨c5, hf⟩ | ⟨c5, hf⟩
          · skip
            replace c5 := ti_leP (a := x6) (b := (96 : Int32)) c5 rfl (show (96 : Int32).toInt = 96 from rfl)
            obtain ⟨v8, e_v8, hf⟩ := m_bndE hf
            have t_v8 : v8.toInt = 8 * x1.toInt := ti_mul e_v8 (show (8 : Int32).toInt = 8 from rfl) rfl (by omega) (by omega)
            obtain ⟨v9, e_v9, hf⟩ := m_bndE hf
            have t_v9 : v9.toInt = v8.toInt + x3.toInt := ti_add e_v9 rfl rfl (by omega) (by omega)
            obtain ⟨-, hf⟩ := m_chkE hf
            obtain ⟨A10, e_A10, hf⟩ := m_bndE hf
            have k8 : k ≠ 8 := fun e8 => by have := h48.2 e8; omega
            have o10 : ∀ j, j ≠ 19 → A10 j = Ac4 j := fun j hj => by rw [e_A10]; exact va_up_ne _ _ hj
            have xn9 : v9.toNatClampNeg = (8 * g + k).toNat := by rw [← show v9.toInt = 8 * g + k by omega]; rfl
            have n10 : A10 19 = upd (Ac4 19) (8 * g + k).toNat x5 := by rw [e_A10, va_up_self, xn9]
            have K10 : TK A10 := by rw [e_A10]; exact tk_u K7 (show (0 : Int) ≤ x5.toInt by omega) (show x5.toInt ≤ (12 : Int) by omega)
            obtain ⟨v11, e_v11, hf⟩ := m_bndE hf
            have t_v11 : v11.toInt = 8 * x1.toInt := ti_mul e_v11 (show (8 : Int32).toInt = 8 from rfl) rfl (by omega) (by omega)
            obtain ⟨v12, e_v12, hf⟩ := m_bndE hf
            have t_v12 : v12.toInt = v11.toInt + x3.toInt := ti_add e_v12 rfl rfl (by omega) (by omega)
            obtain ⟨-, hf⟩ := m_chkE hf
            obtain ⟨A13, e_A13, hf⟩ := m_bndE hf
            have o13 : ∀ j, j ≠ 21 → A13 j = A10 j := fun j hj => by rw [e_A13]; exact va_up_ne _ _ hj
            have xn12 : v12.toNatClampNeg = (8 * g + k).toNat := by rw [← show v12.toInt = 8 * g + k by omega]; rfl
            have n13 : A13 21 = upd (A10 21) (8 * g + k).toNat x6 := by rw [e_A13, va_up_self, xn12]
            have K13 : TK A13 := by rw [e_A13]; exact tk_u K10 (show (0 : Int) ≤ x6.toInt by omega) (show x6.toInt ≤ (96 : Int) by omega)
            have k19 : ∀ i, A13 19 i = upd (Ac4 19) (8 * g + k).toNat x5 i := fun i => by rw [o13 19 (by decide), n10]
            have k21 : ∀ i, A13 21 i = upd (Ac4 21) (8 * g + k).toNat x6 i := fun i => by rw [n13, o10 21 (by decide)]
            have k20 : A13 20 = Ac4 20 := by rw [o13 20 (by decide), o10 20 (by decide)]
            have k22 : A13 22 = Ac4 22 := by rw [o13 22 (by decide), o10 22 (by decide)]
            have kj : ∀ j, j ≠ 19 → j ≠ 20 → j ≠ 21 → j ≠ 22 → A13 j = A0 j := fun j j1 j2 j3 j4 => by rw [o13 j j3, o10 j j1]; exact a7 j j2 j4
            have T13 := tgr_nm (A1 := A13) (u := u) (w := w) hL hg hkL k8 (fun i hi => by rw [k19, upd_ne (by omega), a7 19 (by decide) (by decide)]) (by rw [k19, upd_self]; exact h5) (by omega) (fun i hi => by rw [k21, upd_ne (by omega), a7 21 (by decide) (by decide)]) (by rw [k21, upd_self]; exact h6) (by omega) (fun i hi => by rw [k20]; exact a720 i (Or.inr hi)) (fun i hi => by rw [k22]; exact a722 i (Or.inr hi)) (fun i i0 i1 i2 => by rw [k20]; exact (a7k k8).1 i i0 i1 i2) (fun i i0 i1 i2 => by rw [k22]; exact (a7k k8).2 i i0 i1 i2)
            have h18 : (A13 18 g.toNat).toInt = k := by rw [kj 18 (by decide) (by decide) (by decide) (by decide), hkL]; exact hL.1
            obtain ⟨r14, h_r14, hf⟩ := m_clR hf (fun _ h => rro_isNameThere h)
            obtain ⟨b14, q14⟩ := v_isNameThere (nf := nmL L) T13.1 (fun i i0 i1 => (T13.2.2 i i0 i1).1) hg (by omega) h1 h3 h_r14
            dsimp only at b14 q14
            rcases m_ifE hf with ⟨c6, hf⟩ | ⟨c6, hf⟩
            · skip
              replace c6 := ti_eqP (a := r14) (b := (0 : Int32)) c6 rfl (show (0 : Int32).toInt = 0 from rfl)
              have nrf : ¬ RF2 L u w := by
                rintro (a | a | a | ⟨i, a, b, c⟩)
                · omega
                · omega
                · omega
                · have := q14.2 ⟨i, a, by omega, c⟩; omega
              obtain ⟨r15, h_r15, hf⟩ := m_clR hf (fun _ h => rro_isTag h)
              obtain ⟨b15, q15⟩ := v_isTag (s := strL 0) T13.1 hg (by omega) h3 h1 (Or.inl ⟨rfl, rfl⟩) h_r15
              dsimp only at b15 q15
              rcases m_ifE hf with ⟨c7, hf⟩ | ⟨c7, hf⟩
              · skip
                replace c7 := ti_eqP (a := r15) (b := (0 : Int32)) c7 rfl (show (0 : Int32).toInt = 0 from rfl)
                obtain ⟨d1, d2, d3, d4, -⟩ := v_457 hg h1 h18 (by omega) hf
                refine Or.inr ⟨e, g4, by omega, Or.inr (Or.inr ⟨nrf, d1, by rw [d2]; omega, tgr_add hkL (by omega) T13 (fun j hj => d3 j (by omega)) d4, Or.inl ⟨fun eu => by have := q15.2 eu; omega, fun j hj => by rw [d2]; exact i7 j hj, by rw [d3 16 (by decide)]; exact kj 16 (by decide) (by decide) (by decide) (by decide), by rw [d3 17 (by decide)]; exact kj 17 (by decide) (by decide) (by decide) (by decide)⟩⟩)⟩
              · skip
                replace c7 := ti_eqN (a := r15) (b := (0 : Int32)) c7 rfl (show (0 : Int32).toInt = 0 from rfl)
                obtain ⟨v16, e_v16, hf⟩ := m_bndE hf
                have t_v16 : v16.toInt = 768 * x1.toInt := ti_mul e_v16 (show (768 : Int32).toInt = 768 from rfl) rfl (by omega) (by omega)
                obtain ⟨v17, e_v17, hf⟩ := m_bndE hf
                have t_v17 : v17.toInt = 96 * x3.toInt := ti_mul e_v17 (show (96 : Int32).toInt = 96 from rfl) rfl (by omega) (by omega)
                obtain ⟨v18, e_v18, hf⟩ := m_bndE hf
                have t_v18 : v18.toInt = v16.toInt + v17.toInt := ti_add e_v18 rfl rfl (by omega) (by omega)
                obtain ⟨⟨r19, Ic19, Ac19⟩, h_r19, hf⟩ := m_clE hf
                dsimp only at hf
                have uF : u = strL 0 := q15.1 (by omega)
                have V22 : ∀ i : Int, 0 ≤ i → wA w i = vR A13 (768 * g + 96 * k) (w.length : Int) i := fun i i0 => by
                  unfold vR
                  by_cases c : i < (w.length : Int)
                  · rw [if_pos c]; exact (T13.2.1.2.2 i i0 c).symm
                  · rw [if_neg c]; exact wA_out (Or.inr (by omega))
                have g19 := v_readPosition (b := 768 * g + 96 * k) (n := (w.length : Int)) (V := wA w) T7 K13 (by omega) h6 (by omega) V22 hw h_r19
                have F19 := fw_readPosition h_r19
                dsimp only at g19 F19
                rcases m_ifE hf with ⟨c8, hf⟩ | ⟨c8, hf⟩
                · skip
                  replace c8 := ti_eqP (a := r19) (b := (0 : Int32)) c8 rfl (show (0 : Int32).toInt = 0 from rfl)
                  obtain ⟨r21, h_r21, hf⟩ := m_clR hf (fun _ h => rro_fault h)
                  have q21 := v_fault (x1 := 3) (x2 := x2) (by decide) (by omega) h_r21
                  dsimp only at q21
                  cases hf
                  try dsimp only
                  rcases g19 with ⟨a, -⟩ | ⟨-, a⟩
                  · omega
                  · exact Or.inr ⟨e, g4, by omega, Or.inr (Or.inl ⟨nrf, uF, a, show r21.toInt = 30000 + p by omega⟩)⟩
                · skip
                  replace c8 := ti_eqN (a := r19) (b := (0 : Int32)) c8 rfl (show (0 : Int32).toInt = 0 from rfl)
                  obtain ⟨⟨r20, Ic20, Ac20⟩, h_r20, hf⟩ := m_clE hf
                  dsimp only at hf
                  obtain ⟨m, sd, rt, ps, nb, f1, f2', f3⟩ : ∃ m sd rt ps nb, FENp (wA w) (w.length : Int) m sd rt ps nb ∧ MBd m ∧ RES (r19, Ic19, Ac19) m sd rt ps nb := by
                    rcases g19 with ⟨-, a⟩ | ⟨a, -⟩
                    · exact a
                    · omega
                  obtain ⟨f31, f32, f33, f34, f35⟩ := f3
                  dsimp only at f31 f32 f33 f34 f35
                  obtain ⟨d1, d2, d3⟩ := v_start hg h1 f31 h_r20
                  dsimp only at d1 d2 d3
                  rw [f32, f33, f34, f35] at d2
                  have k20' : ∀ j, j ≠ 16 → j ≠ 17 → j ≠ 24 → Ac20 j = A13 j := fun j j1 j2 j3 => (d3.2.2 j j1 j2).trans (F19.2 j (by simp; exact j3))
                  obtain ⟨t1, t2, t3, t4, -⟩ := v_457 (A := Ac20) (k := k) hg h1 (by rw [k20' 18 (by decide) (by decide) (by decide)]; exact h18) (by omega) hf
                  refine Or.inr ⟨e, g4, by omega, Or.inr (Or.inr ⟨nrf, t1, ?_, tgr_add (A1 := A13) hkL (by omega) T13 (fun j hj => (t3 j (by omega)).trans (k20' j (by omega) (by omega) (by omega))) t4, Or.inr ⟨uF, fun j hj => ?_, m, sd, rt, ps, nb, f1, f2', ?_⟩⟩)⟩
                  · rw [t2, d1, F19.1 37 (by decide)]; omega
                  · rw [t2, d1, F19.1 j (by simp; omega)]; exact i7 j (by omega)
                  · unfold SPo
                    rw [t3 16 (by decide), t3 17 (by decide)]
                    exact d2
            · skip
              replace c6 := ti_eqN (a := r14) (b := (0 : Int32)) c6 rfl (show (0 : Int32).toInt = 0 from rfl)
              obtain ⟨r22, h_r22, hf⟩ := m_clR hf (fun _ h => rro_fault h)
              have q22 := v_fault (x1 := 2) (x2 := x2) (by decide) (by omega) h_r22
              dsimp only at q22
              cases hf
              try dsimp only
              exact Or.inr ⟨e, g4, by omega, Or.inl ⟨Or.inr (Or.inr (Or.inr (by obtain ⟨i, a, b, c⟩ := q14.1 (by omega); exact ⟨i, a, by omega, c⟩))), show r22.toInt = 20000 + p by omega⟩⟩
          · skip
            replace c5 := ti_leN (a := x6) (b := (96 : Int32)) c5 rfl (show (96 : Int32).toInt = 96 from rfl)
            exact Or.inr ⟨e, g4, by omega, f2 (Or.inr (Or.inr (Or.inl (by omega)))) hf⟩
      · skip
        replace c3 := ti_eqN (a := x4) (b := (0 : Int32)) c3 rfl (show (0 : Int32).toInt = 0 from rfl)
        exact Or.inr ⟨e, g4, by omega, f2 (Or.inl (by have := h48.1 (by omega); omega)) hf⟩
    · skip
      replace c2 := ti_eqN (a := r5) (b := (93 : Int32)) c2 rfl (show (93 : Int32).toInt = 93 from rfl)
      obtain ⟨r23, h_r23, hf⟩ := m_clR hf (fun _ h => rro_fault h)
      have q23 := v_fault (x1 := 1) (x2 := Ic4 37) (by decide) (by omega) h_r23
      dsimp only at q23
      cases hf
      try dsimp only
      exact Or.inl ⟨e, g4, by omega, by omega⟩
  · skip
    replace c1 := ti_eqN (a := r1) (b := (34 : Int32)) c1 rfl (show (34 : Int32).toInt = 34 from rfl)
    omega
end TEE
end
section
section RTW
variable {I : Nat → Int32} {A : Nat → Nat → Int32} {ch : Int → Int} {N p g : Int} {o : Int32 × MS} {x1 : Int32} {L : List (List Int × List Int)}
theorem wA_bd {w : List Int} {c : Int} (h : ∀ i, 0 ≤ wA w i ∧ wA w i ≤ 127) (hc : 0 ≤ c ∧ c ≤ 127) : ∀ i, 0 ≤ wA (w ++ [c]) i ∧ wA (w ++ [c]) i ≤ 127 := fun i => by
  rw [wA_app]
  split
  · exact hc
  · exact h i
theorem vl_b (hcb : ∀ i, 0 ≤ ch i ∧ ch i ≤ 127) : ∀ (k : Nat) (p : Int) (w : List Int), (∀ i, 0 ≤ wA w i ∧ wA w i ≤ 127) → ∀ i, 0 ≤ wA (vlP ch N k p w).2.2 i ∧ wA (vlP ch N k p w).2.2 i ≤ 127
  | 0, p, w, h => h
  | k + 1, p, w, h => by
    by_cases c1 : ch p = 34
    · rw [vl_q c1]; exact h
    · by_cases c2 : ch p = 92
      · by_cases c3 : ch (p + 1) = 34 ∨ ch (p + 1) = 92
        · rw [vl_e c2 c3]; exact vl_b hcb k (p + 2) _ (wA_bd h (hcb (p + 1)))
        · rw [vl_f c2 c3]; exact h
      · by_cases c3 : N ≤ p ∨ ch p = 10
        · rw [vl_n c1 c2 c3]; exact h
        · rw [vl_s c1 c2 c3]; exact vl_b hcb k (p + 1) _ (wA_bd h (hcb p))
/-- the reference's tag -/
theorem v_readTag (hI : TJ I) (hA : TK A) (hc : txR I A = ch) (hcb : ∀ i, 0 ≤ ch i ∧ ch i ≤ 127) (hn : (I 1).toInt = N) (hN : N ≤ 2000) (h37 : (I 37).toInt = p) (hp : 0 ≤ p ∧ p ≤ N) (hg : g = 0 ∨ g = 1) (h1 : x1.toInt = g) (hL : TGr A g L) (hn9 : (I 29).toInt ≤ 1999) (hf : f_readTag x1 I A = some o) : (∃ f, TPf ch N p f ∧ o.1.toInt = 10000 + f) ∨ (∃ e u w, TPk ch N p e u w ∧ TEo A I ch g L u w p (e + 1) o) := by
  have hf : f_readTag_0 x1 I A = some o := hf
  have z0 : (0 : Int32).toInt = 0 := rfl
  have z1 : (1 : Int32).toInt = 1 := rfl
  have xn : x1.toNatClampNeg = g.toNat := by rw [← h1]; rfl
  have hl := hL.2.1
  have G : TGi I A I A ch N p g (L.length : Int) [] [] := ⟨⟨hI, hA⟩, ⟨hc, hn⟩, ⟨h37, by omega, by omega⟩, fun _ _ => rfl, fun _ _ _ => rfl, fun _ _ => rfl, fun _ _ => rfl, fun _ => ⟨fun i i0 i1 _ => absurd (show i < 0 from i1) (by omega), fun i i0 i1 _ => absurd (show i < 0 from i1) (by omega)⟩, ⟨hg, by omega, by omega⟩, hcb⟩
  have e0 : ∀ i, 0 ≤ wA [] i ∧ wA [] i ≤ 127 := fun i => by
    unfold wA
    split
    · rw [show ([] : List Int).getD i.toNat 0 = 0 from rfl]; decide
    · decide
  have run : ∀ (v1 x4 : Int32), v1.toInt = (L.length : Int) → (x4.toInt = 0 ∨ x4.toInt = 1) → (x4.toInt = 1 ↔ (L.length : Int) = 8) → f_readTag_23 x1 (I 37) v1 x4 I A = some o → (∃ f, TPf ch N p f ∧ o.1.toInt = 10000 + f) ∨ (∃ e u w, TPk ch N p e u w ∧ TEo A I ch g L u w p (e + 1) o) := by
    intro v1 x4 hv h4 h48 hf
    rcases rt_23 hN G hp.2 h1 hv h4 h48 hf with a | ⟨n0, n1, q0, q, I1, A1, n, y5, y6, a1, a2, a3, a4, a5, a6, a7, a8, a9, a10, a11, a12, a13⟩
    · exact Or.inl a
    · have wl := wr_len (ch := ch) (a := n0) (n1 - n0).toNat
      have g9 := rt_end (p := p) hN a12 a8 a9 hL rfl (vl_b hcb 2001 (q0 + 1) [] e0) hn9 h1 h37 (by omega) hv h4 h48 (by rw [wl]; omega) a11 a13
      rw [a7] at g9
      rcases g9 with ⟨e, b1, b2, b3⟩ | ⟨e, b1, b2, b3⟩
      · exact Or.inl ⟨e, ⟨n0, n1, a1, a2, Or.inr ⟨a3, q0, a4, Or.inr ⟨a5, Or.inr ⟨a6, e, b1, b2, rfl⟩⟩⟩⟩, b3⟩
      · exact Or.inr ⟨e, _, _, ⟨n0, n1, q0, a1, a2, a3, a4, a5, a6, b1, b2, rfl, rfl⟩, b3⟩
  unfold f_readTag_0 at hf
  obtain ⟨-, hf⟩ := m_chkE hf
  obtain ⟨v1, e1, hf⟩ := m_bndE hf
  have q1 : v1.toInt = (L.length : Int) := by rw [e1, xn]; exact hL.1
  rcases m_ifE hf with ⟨c1, hf⟩ | ⟨c1, hf⟩
  · replace c1 := ti_eqP (a := v1) (b := (8 : Int32)) c1 rfl (show (8 : Int32).toInt = 8 from rfl)
    exact run v1 1 q1 (Or.inr rfl) ⟨fun _ => by omega, fun _ => rfl⟩ hf
  · replace c1 := ti_eqN (a := v1) (b := (8 : Int32)) c1 rfl (show (8 : Int32).toInt = 8 from rfl)
    exact run v1 0 q1 (Or.inl rfl) ⟨fun e => absurd e (by decide), fun e => by omega⟩ hf
end RTW
end
section
/-- the tags of the class's game gm -/
noncomputable def TGc (S : ZS) (gm : Nat) (L : List (List Int × List Int)) : Prop := (zI S 5 gm).toInt = (L.length : Int) ∧ L.length ≤ 8 ∧ ∃ ar, zP S 4 gm = some ar ∧ ∀ i : Int, 0 ≤ i → i < (L.length : Int) → ∃ t nr vr, zB S ar i.toNat = some t ∧ zP S 0 t = some nr ∧ zP S 1 t = some vr ∧ RWL S nr (nmL L i) ∧ RWL S vr (vlL L i)
section TGC
variable {S S' : ZS} {gm : Nat} {L : List (List Int × List Int)} {x1 : Int32}
theorem p_tagAt {r : Nat} (h : TGc S gm L) (hi : 0 ≤ x1.toInt ∧ x1.toInt < (L.length : Int)) (hf : d_X1_tagAt gm x1 S = some (r, S')) : S' = S ∧ ∃ nr vr, zP S 0 r = some nr ∧ zP S 1 r = some vr ∧ RWL S nr (nmL L x1.toInt) ∧ RWL S vr (vlL L x1.toInt) := by
  have hf : d_X1_tagAt_0 gm x1 S = some (r, S') := hf
  obtain ⟨hl, h8, ar, hP, ht⟩ := h
  obtain ⟨t, nr, vr, g1, g2, g3, g4, g5⟩ := ht x1.toInt hi.1 hi.2
  have z0 : (0 : Int32).toInt = 0 := rfl
  unfold d_X1_tagAt_0 at hf
  rcases m_ifE hf with ⟨c1, hf⟩ | ⟨c1, hf⟩
  · replace c1 := ti_ltP (a := x1) (b := (0 : Int32)) c1 rfl rfl
    omega
  · obtain ⟨-, hf⟩ := m_chkE hf
    rcases m_ifE hf with ⟨c2, hf⟩ | ⟨c2, hf⟩
    · replace c2 := ti_leP (a := zI S 5 gm) (b := x1) c2 rfl rfl
      omega
    · obtain ⟨-, hf⟩ := m_chkE hf
      replace hf := m_calY hf hP
      obtain ⟨-, hf⟩ := m_chkE hf
      obtain ⟨-, hf⟩ := m_chkE hf
      obtain ⟨v2, e2, hf⟩ := m_bndE hf
      have e3 : v2 = some t := by rw [e2]; exact g1
      unfold d_X1_tagAt_22 at hf
      rcases m_optE hf with ⟨n1, hf⟩ | ⟨b1, n1, hf⟩
      · rw [n1] at e3; cases e3
      · rw [n1] at e3
        cases e3
        unfold d_X1_tagAt_38 at hf
        replace hf := m_calY hf rfl
        cases hf
        exact ⟨rfl, nr, vr, g2, g3, g4, g5⟩
end TGC
end
section
section LIK
variable {S S' : ZS} {x0 x1 : Nat} {a b : List Int} {o : Int32 × ZS}
theorem lk_15 (ha : RWL S x0 a) (hb : RWL S x1 b) (hl : a.length = b.length) (h9 : (a.length : Int) ≤ 100000) : ∀ (n : Nat) (x2 : Int32), 0 ≤ x2.toInt → x2.toInt ≤ (a.length : Int) → (∀ i : Int, 0 ≤ i → i < x2.toInt → wA a i = wA b i) → f_X6_isLike_15 n x0 x1 x2 S = some o → (o.1.toInt = 0 ∨ o.1.toInt = 1) ∧ (o.1.toInt = 1 ↔ a = b) := by
  intro n
  induction n with
  | zero => intro x2 _ _ _ hf; cases hf
  | succ n ih =>
    intro x2 h0 h2 hs hf
    have hf : f_X6_isLike_15s (f_X6_isLike_15 n) x0 x1 x2 S = some o := hf
    have l1 := ha.1
    unfold f_X6_isLike_15s at hf
    obtain ⟨-, hf⟩ := m_chkE hf
    rcases m_ifE hf with ⟨c1, hf⟩ | ⟨c1, hf⟩
    · skip
      replace c1 := ti_leP (a := (zI S 1 x0)) (b := x2) c1 rfl rfl
      obtain ⟨-, hf⟩ := m_chkE hf
      cases hf
      try dsimp only
      exact ⟨Or.inr rfl, fun _ => wA_ext hl (fun i i0 i1 => hs i i0 (by omega)), fun _ => rfl⟩
    · skip
      replace c1 := ti_leN (a := (zI S 1 x0)) (b := x2) c1 rfl rfl
      obtain ⟨-, hf⟩ := m_chkE hf
      obtain ⟨b1, h_b1, hf⟩ := m_calE hf
      obtain ⟨-, hf⟩ := m_chkE hf
      obtain ⟨-, hf⟩ := m_chkE hf
      obtain ⟨v2, e_v2, hf⟩ := m_bndE hf
      have q2 : v2.toInt = wA a x2.toInt := by
        rw [← ha.2 x2.toInt]
        unfold rwC
        rw [if_pos ⟨h0, by omega⟩, h_b1, e_v2]
        rfl
      obtain ⟨-, hf⟩ := m_chkE hf
      obtain ⟨r3, h_r3, hf⟩ := m_calR hf (fun _ h => ro_X6_at h)
      dsimp only at hf
      have p_r3 := pc_X6_at h_r3
      dsimp only at p_r3
      rw [hb.2] at p_r3
      rcases m_ifE hf with ⟨c2, hf⟩ | ⟨c2, hf⟩
      · skip
        replace c2 := ti_eqP (a := v2) (b := r3) c2 rfl rfl
        obtain ⟨v4, e_v4, hf⟩ := m_bndE hf
        have t_v4 : v4.toInt = x2.toInt + 1 := ti_add e_v4 rfl (show (1 : Int32).toInt = 1 from rfl) (by omega) (by omega)
        refine ih v4 (by omega) (by omega) (fun i i0 i1 => ?_) hf
        by_cases e : i = x2.toInt
        · rw [e]; omega
        · exact hs i i0 (by omega)
      · skip
        replace c2 := ti_eqN (a := v2) (b := r3) c2 rfl rfl
        obtain ⟨-, hf⟩ := m_chkE hf
        cases hf
        try dsimp only
        refine ⟨Or.inl rfl, fun e => absurd e (by decide), fun e => ?_⟩
        rw [e] at q2
        omega
theorem p_isLike (ha : RWL S x0 a) (hb : RWL S x1 b) (h9 : (a.length : Int) ≤ 100000) (hf : f_X6_isLike x0 x1 S = some o) : (o.1.toInt = 0 ∨ o.1.toInt = 1) ∧ (o.1.toInt = 1 ↔ a = b) := by
  have hf : f_X6_isLike_0 x0 x1 S = some o := hf
  have l1 := ha.1
  have l2 := hb.1
  unfold f_X6_isLike_0 at hf
  obtain ⟨-, hf⟩ := m_chkE hf
  obtain ⟨-, hf⟩ := m_chkE hf
  rcases m_ifE hf with ⟨c1, hf⟩ | ⟨c1, hf⟩
  · skip
    replace c1 := ti_eqP (a := (zI S 1 x0)) (b := (zI S 1 x1)) c1 rfl rfl
    exact lk_15 ha hb (by omega) h9 mFuel 0 (by decide) (show (0 : Int) ≤ (a.length : Int) by omega) (fun i i0 i1 => by have z : (0 : Int32).toInt = 0 := rfl; omega) hf
  · skip
    replace c1 := ti_eqN (a := (zI S 1 x0)) (b := (zI S 1 x1)) c1 rfl rfl
    obtain ⟨-, hf⟩ := m_chkE hf
    cases hf
    try dsimp only
    refine ⟨Or.inl rfl, fun e => absurd e (by decide), fun e => ?_⟩
    rw [e] at l1
    omega
theorem ht_2 {gm nr : Nat} {u : List Int} {L : List (List Int × List Int)} (h : TGc S gm L) (hu : RWL S nr u) (hL : ∀ i, 0 ≤ i → i < (L.length : Int) → ((nmL L i).length : Int) ≤ 100000) : ∀ (n : Nat) (x2 : Int32), 0 ≤ x2.toInt → x2.toInt ≤ (L.length : Int) → (∀ i : Int, 0 ≤ i → i < x2.toInt → nmL L i ≠ u) → d_X1_hasTag_2 n gm nr x2 S = some o → o.2 = S ∧ (o.1.toInt = 0 ∨ o.1.toInt = 1) ∧ (o.1.toInt = 1 ↔ ∃ i, 0 ≤ i ∧ i < (L.length : Int) ∧ nmL L i = u) := by
  intro n
  induction n with
  | zero => intro x2 _ _ _ hf; cases hf
  | succ n ih =>
    intro x2 h0 h2 hs hf
    have hf : d_X1_hasTag_2s (d_X1_hasTag_2 n) gm nr x2 S = some o := hf
    have l1 := h.1
    have h8 := h.2.1
    unfold d_X1_hasTag_2s at hf
    obtain ⟨-, hf⟩ := m_chkE hf
    rcases m_ifE hf with ⟨c1, hf⟩ | ⟨c1, hf⟩
    · replace c1 := ti_leP (a := zI S 5 gm) (b := x2) c1 rfl rfl
      obtain ⟨-, hf⟩ := m_chkE hf
      cases hf
      refine ⟨rfl, Or.inl rfl, fun e => absurd (show (0 : Int32).toInt = 1 from e) (by decide), fun ⟨i, i0, i1, e⟩ => absurd e (hs i i0 (by omega))⟩
    · replace c1 := ti_leN (a := zI S 5 gm) (b := x2) c1 rfl rfl
      obtain ⟨-, hf⟩ := m_chkE hf
      obtain ⟨⟨r2, S3⟩, h_r2, hf⟩ := m_cal2E hf
      dsimp only at hf
      obtain ⟨e3, n1, v1, g1, g2, g3, g4⟩ := p_tagAt h ⟨h0, by omega⟩ h_r2
      rw [e3] at hf
      obtain ⟨-, hf⟩ := m_chkE hf
      replace hf := m_calY hf g1
      obtain ⟨-, hf⟩ := m_chkE hf
      obtain ⟨r7, h_r7, hf⟩ := m_calR hf (fun _ h => ro_X6_isLike h)
      dsimp only at hf
      obtain ⟨b7, q7⟩ := p_isLike g3 hu (hL x2.toInt h0 (by omega)) h_r7
      dsimp only at b7 q7
      obtain ⟨-, hf⟩ := m_chkE hf
      rcases m_ifE hf with ⟨c2, hf⟩ | ⟨c2, hf⟩
      · replace c2 := ti_eqP (a := r7) (b := (0 : Int32)) c2 rfl (show (0 : Int32).toInt = 0 from rfl)
        obtain ⟨v8, e8, hf⟩ := m_bndE hf
        have t8 : v8.toInt = x2.toInt + 1 := ti_add e8 rfl (show (1 : Int32).toInt = 1 from rfl) (by omega) (by omega)
        refine ih v8 (by omega) (by omega) (fun i i0 i1 => ?_) hf
        by_cases e : i = x2.toInt
        · rw [e]; exact fun g => by have := q7.2 g; omega
        · exact hs i i0 (by omega)
      · replace c2 := ti_eqN (a := r7) (b := (0 : Int32)) c2 rfl (show (0 : Int32).toInt = 0 from rfl)
        obtain ⟨-, hf⟩ := m_chkE hf
        cases hf
        exact ⟨rfl, Or.inr rfl, fun _ => ⟨x2.toInt, h0, by omega, q7.1 (by omega)⟩, fun _ => rfl⟩
theorem p_hasTag {gm nr : Nat} {u : List Int} {L : List (List Int × List Int)} (h : TGc S gm L) (hu : RWL S nr u) (hL : ∀ i, 0 ≤ i → i < (L.length : Int) → ((nmL L i).length : Int) ≤ 100000) (hf : d_X1_hasTag gm nr S = some o) : o.2 = S ∧ (o.1.toInt = 0 ∨ o.1.toInt = 1) ∧ (o.1.toInt = 1 ↔ ∃ i, 0 ≤ i ∧ i < (L.length : Int) ∧ nmL L i = u) := ht_2 h hu hL mFuel 0 (by decide) (show (0 : Int) ≤ (L.length : Int) by omega) (fun i i0 i1 => by have z : (0 : Int32).toInt = 0 := rfl; omega) hf
end LIK
end
section
section CPY
variable {S0 S S' : ZS} {x0 x1 : Nat} {u : List Int} {o : Int32 × ZS}
theorem take_s {u : List Int} {k : Nat} (h : k < u.length) : u.take k ++ [wA u (k : Int)] = u.take (k + 1) := by
  have l1 : (u.take k).length = k := by rw [List.length_take]; omega
  have l2 : (u.take (k + 1)).length = k + 1 := by rw [List.length_take]; omega
  refine wA_ext (by rw [List.length_append, l1, l2]; rfl) (fun i i0 i1 => ?_)
  rw [l2] at i1
  rw [wA_app, wA_take, wA_take, l1]
  by_cases e : i = (k : Int)
  · rw [if_pos e, if_pos (by omega), e]
  · rw [if_neg e, if_pos (by omega), if_pos (by omega)]
theorem ca_2 (hne : x1 ≠ x0) (hrc : rc x0 ≠ 2) (hu : u.length ≤ 150) (hcu : ∀ i, 0 ≤ wA u i ∧ wA u i ≤ 65535) : ∀ (n : Nat) (x2 : Int32) (S : ZS) (k : Nat), x2.toInt = (k : Int) → k ≤ u.length → ZT S → RWF S0 S x0 → RWL S x0 (u.take k) → RWL S x1 u → zK S x0 = 6 → zK S x1 = 6 → d_X6_putAll_2 n x0 x1 x2 S = some o → ZT o.2 ∧ RWF S0 o.2 x0 ∧ RWL o.2 x0 u := by
  intro n
  induction n with
  | zero => intro x2 S k _ _ _ _ _ _ _ _ hf; cases hf
  | succ n ih =>
    intro x2 S k hx hk hT hF h0 h1 k0 k1 hf
    have hf : d_X6_putAll_2s (d_X6_putAll_2 n) x0 x1 x2 S = some o := hf
    have l1 := h1.1
    have l0 := h0.1
    have rl := rL_ge x0
    have lt : (u.take k).length = k := by rw [List.length_take]; omega
    unfold d_X6_putAll_2s at hf
    obtain ⟨-, hf⟩ := m_chkE hf
    rcases m_ifE hf with ⟨c1, hf⟩ | ⟨c1, hf⟩
    · skip
      replace c1 := ti_leP (a := (zI S 1 x1)) (b := x2) c1 rfl rfl
      cases hf
      try dsimp only
      refine ⟨hT, hF, ?_⟩
      rw [List.take_of_length_le (by omega)] at h0
      exact h0
    · skip
      replace c1 := ti_leN (a := (zI S 1 x1)) (b := x2) c1 rfl rfl
      obtain ⟨-, hf⟩ := m_chkE hf
      obtain ⟨r1, h_r1, hf⟩ := m_calR hf (fun _ h => ro_X6_at h)
      dsimp only at hf
      have p_r1 := pc_X6_at h_r1
      dsimp only at p_r1
      rw [h1.2, hx] at p_r1
      have c1' := hcu (k : Int)
      obtain ⟨-, hf⟩ := m_chkE hf
      obtain ⟨-, hf⟩ := m_chkE hf
      obtain ⟨⟨r3, S4⟩, h_r3, hf⟩ := m_cal2E hf
      dsimp only at hf
      have T4 : ZT S4 := (ok_of (t_d_X6_put (SZ := S) hT (rp_0 S) k0 (by omega) (by rw [l0, lt]; omega) hrc) h_r3).1
      obtain ⟨g1, g2⟩ := p_rput hT k0 h0 (by rw [lt]; omega) (by omega) h_r3
      rw [p_r1, take_s (by omega)] at g1
      obtain ⟨v7, e_v7, hf⟩ := m_bndE hf
      have t_v7 : v7.toInt = x2.toInt + 1 := ti_add e_v7 rfl (show (1 : Int32).toInt = 1 from rfl) (by omega) (by omega)
      exact ih v7 S4 (k + 1) (by omega) (by omega) T4 (rwf_t hF g2) g1 (rwf_l g2 k1 hne h1) (by rw [(g2.1 x0 (by rw [k0]; decide)).1]; exact k0) (by rw [(g2.1 x1 (by rw [k1]; decide)).1]; exact k1) hf
end CPY
end
section
section CPF
variable {S S' : ZS} {x0 x1 : Nat} {u v : List Int} {o : Int32 × ZS}
theorem rwl_0 {S1 : ZS} (e1 : S1 = zsI S 1 x0 0) : RWL S1 x0 [] ∧ RWF S S1 x0 := by
  have l1 : zI S1 1 x0 = 0 := by rw [e1]; exact zI_self _ _ _ _
  refine ⟨⟨by rw [l1]; rfl, fun i => ?_⟩, fun a _ => ⟨by rw [e1]; rfl, by rw [e1]; rfl⟩, fun a j _ hb => ⟨by rw [e1, zI_b hb], by rw [e1]; rfl⟩, fun j hj => by rw [e1, zI_j hj], fun j _ => by rw [e1]; rfl, fun a _ _ => by rw [e1]; rfl, fun a _ => by rw [e1]; rfl, fun a c _ _ _ => by rw [e1]; rfl⟩
  have z : (0 : Int32).toInt = 0 := rfl
  rw [rw_out (by rw [l1, z]; omega), wA_out (by show i < 0 ∨ (0 : Int) ≤ i; omega)]
/-- a row becomes like another -/
theorem p_copyFrom (hT : ZT S) (hne : x1 ≠ x0) (hrc : rc x0 ≠ 2) (hu : u.length ≤ 150) (hcu : ∀ i, 0 ≤ wA u i ∧ wA u i ≤ 65535) (h1 : RWL S x1 u) (k0 : zK S x0 = 6) (k1 : zK S x1 = 6) (hz : 0 ≤ (zI S 1 x0).toInt) (hf : d_X6_copyFrom x0 x1 S = some o) : ZT o.2 ∧ RWF S o.2 x0 ∧ RWL o.2 x0 u := by
  have hf : d_X6_copyFrom_0 x0 x1 S = some o := hf
  unfold d_X6_copyFrom_0 at hf
  obtain ⟨-, hf⟩ := m_chkE hf
  obtain ⟨S1, e1, hf⟩ := m_bndE hf
  obtain ⟨-, hf⟩ := m_chkE hf
  obtain ⟨⟨r3, S4⟩, h_r3, hf⟩ := m_cal2E hf
  dsimp only at hf
  obtain ⟨g1, g2⟩ := rwl_0 e1
  have T1 : ZT S1 := e1.symm ▸ zt_I0 hT k0 (fun _ => ⟨show (0 : Int) ≤ (0 : Int32).toInt by decide, show (0 : Int32).toInt ≤ _ from hz⟩) (fun e => absurd e.1 (by decide)) (tf_b _)
  have g := ca_2 (S0 := S) hne hrc hu hcu mFuel 0 S1 0 rfl (Nat.zero_le _) T1 g2 g1 (rwf_l g2 k1 hne h1) (by rw [(g2.1 x0 (by rw [k0]; decide)).1]; exact k0) (by rw [(g2.1 x1 (by rw [k1]; decide)).1]; exact k1) h_r3
  cases hf
  exact g
end CPF
end
section
/-- the result that stands at p -/
noncomputable def rsV (ch : Int → Int) (p : Int) : Int := if ch p = 42 then 0 else if ch p = 49 ∧ ch (p + 1) = 45 ∧ ch (p + 2) = 48 then 1 else if ch p = 48 ∧ ch (p + 1) = 45 ∧ ch (p + 2) = 49 then 2 else if (ch p = 49 ∧ ch (p + 1) = 47 ∧ ch (p + 2) = 50) ∧ ch (p + 3) = 45 ∧ ch (p + 4) = 49 ∧ ch (p + 5) = 47 ∧ ch (p + 6) = 50 then 3 else -1
section RSH
variable {I : Nat → Int32} {A : Nat → Nat → Int32} {ch : Int → Int} {N p : Int} {o : Int32 × MS} {x1 x2 x3 : Int32}
theorem v_goesOn (hc : txR I A = ch) (hn : (I 1).toInt = N) (hN : N ≤ 2000) (h37 : (I 37).toInt = p) (hp : 0 ≤ p ∧ p ≤ 2010) (h1 : x1.toInt ≠ 0) (h2 : x2.toInt ≠ 0) (h3 : x3.toInt ≠ 0) (hf : f_goesOnWith x1 x2 x3 I A = some o) : (o.1.toInt = 0 ∨ o.1.toInt = 1) ∧ (o.1.toInt = 1 ↔ ch p = x1.toInt ∧ ch (p + 1) = x2.toInt ∧ ch (p + 2) = x3.toInt) := by
  have hf : f_goesOnWith_0 x1 x2 x3 I A = some o := hf
  have out : ∀ i, N ≤ i → ch i = 0 := fun i hi => by rw [← hc]; exact tx_out (by omega)
  unfold f_goesOnWith_0 at hf
  obtain ⟨v1, e_v1, hf⟩ := m_bndE hf
  have t_v1 : v1.toInt = (I 37).toInt + 2 := ti_add e_v1 rfl (show (2 : Int32).toInt = 2 from rfl) (by omega) (by omega)
  rcases m_ifE hf with ⟨c1, hf⟩ | ⟨c1, hf⟩
  · skip
    replace c1 := ti_leP (a := (I 1)) (b := v1) c1 rfl rfl
    unfold f_goesOnWith_60 at hf
    unfold f_goesOnWith_61 at hf
    obtain ⟨-, hf⟩ := m_chkE hf
    cases hf
    try dsimp only
    refine ⟨Or.inl rfl, fun e => absurd e (by decide), fun e => ?_⟩
    have := out (p + 2) (by omega)
    omega
  · skip
    replace c1 := ti_leN (a := (I 1)) (b := v1) c1 rfl rfl
    obtain ⟨-, hf⟩ := m_chkE hf
    obtain ⟨v2, e_v2, hf⟩ := m_bndE hf
    have q2 := tx_at (I := I) (x := I 37) e_v2 (by omega) (by omega)
    rw [hc, h37] at q2
    rcases m_ifE hf with ⟨c2, hf⟩ | ⟨c2, hf⟩
    · skip
      replace c2 := ti_eqP (a := v2) (b := x1) c2 rfl rfl
      obtain ⟨v3, e_v3, hf⟩ := m_bndE hf
      have t_v3 : v3.toInt = (I 37).toInt + 1 := ti_add e_v3 rfl (show (1 : Int32).toInt = 1 from rfl) (by omega) (by omega)
      obtain ⟨-, hf⟩ := m_chkE hf
      obtain ⟨v4, e_v4, hf⟩ := m_bndE hf
      have q4 := tx_at (I := I) e_v4 (by omega) (by omega)
      rw [hc, show v3.toInt = p + 1 by omega] at q4
      rcases m_ifE hf with ⟨c3, hf⟩ | ⟨c3, hf⟩
      · skip
        replace c3 := ti_eqP (a := v4) (b := x2) c3 rfl rfl
        obtain ⟨v5, e_v5, hf⟩ := m_bndE hf
        have t_v5 : v5.toInt = (I 37).toInt + 2 := ti_add e_v5 rfl (show (2 : Int32).toInt = 2 from rfl) (by omega) (by omega)
        obtain ⟨-, hf⟩ := m_chkE hf
        obtain ⟨v6, e_v6, hf⟩ := m_bndE hf
        have q6 := tx_at (I := I) e_v6 (by omega) (by omega)
        rw [hc, show v5.toInt = p + 2 by omega] at q6
        rcases m_ifE hf with ⟨c4, hf⟩ | ⟨c4, hf⟩
        · skip
          replace c4 := ti_eqP (a := v6) (b := x3) c4 rfl rfl
          unfold f_goesOnWith_61 at hf
          obtain ⟨-, hf⟩ := m_chkE hf
          cases hf
          try dsimp only
          exact ⟨Or.inr rfl, fun _ => ⟨by omega, by omega, by omega⟩, fun _ => rfl⟩
        · skip
          replace c4 := ti_eqN (a := v6) (b := x3) c4 rfl rfl
          unfold f_goesOnWith_60 at hf
          unfold f_goesOnWith_61 at hf
          obtain ⟨-, hf⟩ := m_chkE hf
          cases hf
          try dsimp only
          exact ⟨Or.inl rfl, fun e => absurd e (by decide), fun e => by omega⟩
      · skip
        replace c3 := ti_eqN (a := v4) (b := x2) c3 rfl rfl
        unfold f_goesOnWith_60 at hf
        unfold f_goesOnWith_61 at hf
        obtain ⟨-, hf⟩ := m_chkE hf
        cases hf
        try dsimp only
        exact ⟨Or.inl rfl, fun e => absurd e (by decide), fun e => by omega⟩
    · skip
      replace c2 := ti_eqN (a := v2) (b := x1) c2 rfl rfl
      unfold f_goesOnWith_60 at hf
      unfold f_goesOnWith_61 at hf
      obtain ⟨-, hf⟩ := m_chkE hf
      cases hf
      try dsimp only
      exact ⟨Or.inl rfl, fun e => absurd e (by decide), fun e => by omega⟩
theorem v_resultHere (hc : txR I A = ch) (hn : (I 1).toInt = N) (hN : N ≤ 2000) (h37 : (I 37).toInt = p) (hp : 0 ≤ p ∧ p ≤ 2010) (hf : f_resultHere I A = some o) : o.2 = (I, A) ∧ o.1.toInt = rsV ch p := by
  have hro := rro_resultHere hf
  refine ⟨hro, ?_⟩
  have hf : f_resultHere_0 I A = some o := hf
  have out : ∀ i, N ≤ i → ch i = 0 := fun i hi => by rw [← hc]; exact tx_out (by omega)
  have z45 : (45 : Int32).toInt = 45 := rfl
  have z47 : (47 : Int32).toInt = 47 := rfl
  have z48 : (48 : Int32).toInt = 48 := rfl
  have z49 : (49 : Int32).toInt = 49 := rfl
  have z50 : (50 : Int32).toInt = 50 := rfl
  unfold rsV
  unfold f_resultHere_0 at hf
  obtain ⟨r1, h_r1, hf⟩ := m_clR hf (fun _ h => rro_look h)
  have p_r1 := pc_look h_r1
  dsimp only at p_r1
  have q1 := p_r1 (by omega)
  rw [hc, h37] at q1
  clear p_r1
  rcases m_ifE hf with ⟨c1, hf⟩ | ⟨c1, hf⟩
  · skip
    replace c1 := ti_eqP (a := r1) (b := (42 : Int32)) c1 rfl (show (42 : Int32).toInt = 42 from rfl)
    cases hf
    try dsimp only
    rw [if_pos (by omega)]; rfl
  · skip
    replace c1 := ti_eqN (a := r1) (b := (42 : Int32)) c1 rfl (show (42 : Int32).toInt = 42 from rfl)
    obtain ⟨r2, h_r2, hf⟩ := m_clR hf (fun _ h => rro_goesOnWith h)
    obtain ⟨b2, q2⟩ := v_goesOn hc hn hN h37 hp (by decide) (by decide) (by decide) h_r2
    dsimp only at b2 q2
    rw [z49, z45, z48] at q2
    rw [if_neg (by omega)]
    rcases m_ifE hf with ⟨c2, hf⟩ | ⟨c2, hf⟩
    · skip
      replace c2 := ti_eqP (a := r2) (b := (0 : Int32)) c2 rfl (show (0 : Int32).toInt = 0 from rfl)
      rw [if_neg (fun e => by have := q2.2 e; omega)]
      obtain ⟨r3, h_r3, hf⟩ := m_clR hf (fun _ h => rro_goesOnWith h)
      obtain ⟨b3, q3⟩ := v_goesOn hc hn hN h37 hp (by decide) (by decide) (by decide) h_r3
      dsimp only at b3 q3
      rw [z49, z45, z48] at q3
      rcases m_ifE hf with ⟨c3, hf⟩ | ⟨c3, hf⟩
      · skip
        replace c3 := ti_eqP (a := r3) (b := (0 : Int32)) c3 rfl (show (0 : Int32).toInt = 0 from rfl)
        rw [if_neg (fun e => by have := q3.2 e; omega)]
        obtain ⟨r4, h_r4, hf⟩ := m_clR hf (fun _ h => rro_goesOnWith h)
        obtain ⟨b4, q4⟩ := v_goesOn hc hn hN h37 hp (by decide) (by decide) (by decide) h_r4
        dsimp only at b4 q4
        rw [z49, z47, z50] at q4
        rcases m_ifE hf with ⟨c4, hf⟩ | ⟨c4, hf⟩
        · skip
          replace c4 := ti_eqP (a := r4) (b := (0 : Int32)) c4 rfl (show (0 : Int32).toInt = 0 from rfl)
          unfold f_resultHere_137 f_resultHere_138 f_resultHere_148 at hf
          rcases m_ifE hf with ⟨c9, hf⟩ | ⟨c9, hf⟩
          · cases hf
            rw [if_neg (fun e => by have := q4.2 e.1; omega)]; rfl
          · exact absurd rfl c9
        · skip
          replace c4 := ti_eqN (a := r4) (b := (0 : Int32)) c4 rfl (show (0 : Int32).toInt = 0 from rfl)
          obtain ⟨v5, e_v5, hf⟩ := m_bndE hf
          have t_v5 : v5.toInt = (I 37).toInt + 6 := ti_add e_v5 rfl (show (6 : Int32).toInt = 6 from rfl) (by omega) (by omega)
          rcases m_ifE hf with ⟨c5, hf⟩ | ⟨c5, hf⟩
          · skip
            replace c5 := ti_leP (a := (I 1)) (b := v5) c5 rfl rfl
            unfold f_resultHere_137 f_resultHere_138 f_resultHere_148 at hf
            have := out (p + 6) (by omega)
            rcases m_ifE hf with ⟨c9, hf⟩ | ⟨c9, hf⟩
            · cases hf
              rw [if_neg (by omega)]; rfl
            · exact absurd rfl c9
          · skip
            replace c5 := ti_leN (a := (I 1)) (b := v5) c5 rfl rfl
            obtain ⟨v6, e_v6, hf⟩ := m_bndE hf
            have t_v6 : v6.toInt = (I 37).toInt + 3 := ti_add e_v6 rfl (show (3 : Int32).toInt = 3 from rfl) (by omega) (by omega)
            obtain ⟨-, hf⟩ := m_chkE hf
            obtain ⟨v7, e_v7, hf⟩ := m_bndE hf
            have q7 := tx_at (I := I) e_v7 (by omega) (by omega)
            rw [hc, show v6.toInt = p + 3 by omega] at q7
            rcases m_ifE hf with ⟨c6, hf⟩ | ⟨c6, hf⟩
            · skip
              replace c6 := ti_eqP (a := v7) (b := (45 : Int32)) c6 rfl (show (45 : Int32).toInt = 45 from rfl)
              obtain ⟨v8, e_v8, hf⟩ := m_bndE hf
              have t_v8 : v8.toInt = (I 37).toInt + 4 := ti_add e_v8 rfl (show (4 : Int32).toInt = 4 from rfl) (by omega) (by omega)
              obtain ⟨-, hf⟩ := m_chkE hf
              obtain ⟨v9, e_v9, hf⟩ := m_bndE hf
              have q9 := tx_at (I := I) e_v9 (by omega) (by omega)
              rw [hc, show v8.toInt = p + 4 by omega] at q9
              rcases m_ifE hf with ⟨c7, hf⟩ | ⟨c7, hf⟩
              · skip
                replace c7 := ti_eqP (a := v9) (b := (49 : Int32)) c7 rfl (show (49 : Int32).toInt = 49 from rfl)
                obtain ⟨v10, e_v10, hf⟩ := m_bndE hf
                have t_v10 : v10.toInt = (I 37).toInt + 5 := ti_add e_v10 rfl (show (5 : Int32).toInt = 5 from rfl) (by omega) (by omega)
                obtain ⟨-, hf⟩ := m_chkE hf
                obtain ⟨v11, e_v11, hf⟩ := m_bndE hf
                have q11 := tx_at (I := I) e_v11 (by omega) (by omega)
                rw [hc, show v10.toInt = p + 5 by omega] at q11
                rcases m_ifE hf with ⟨c8, hf⟩ | ⟨c8, hf⟩
                · skip
                  replace c8 := ti_eqP (a := v11) (b := (47 : Int32)) c8 rfl (show (47 : Int32).toInt = 47 from rfl)
                  obtain ⟨v12, e_v12, hf⟩ := m_bndE hf
                  have t_v12 : v12.toInt = (I 37).toInt + 6 := ti_add e_v12 rfl (show (6 : Int32).toInt = 6 from rfl) (by omega) (by omega)
                  obtain ⟨-, hf⟩ := m_chkE hf
                  obtain ⟨v13, e_v13, hf⟩ := m_bndE hf
                  have q13 := tx_at (I := I) e_v13 (by omega) (by omega)
                  rw [hc, show v12.toInt = p + 6 by omega] at q13
                  rcases m_ifE hf with ⟨c9, hf⟩ | ⟨c9, hf⟩
                  · skip
                    replace c9 := ti_eqP (a := v13) (b := (50 : Int32)) c9 rfl (show (50 : Int32).toInt = 50 from rfl)
                    unfold f_resultHere_138 f_resultHere_148 at hf
                    rcases m_ifE hf with ⟨c9', hf⟩ | ⟨c9', hf⟩
                    · exact absurd c9' (by decide)
                    · cases hf
                      rw [if_pos ⟨q4.1 (by omega), by omega, by omega, by omega, by omega⟩]; rfl
                  · skip
                    replace c9 := ti_eqN (a := v13) (b := (50 : Int32)) c9 rfl (show (50 : Int32).toInt = 50 from rfl)
                    unfold f_resultHere_137 f_resultHere_138 f_resultHere_148 at hf
                    rcases m_ifE hf with ⟨c9', hf⟩ | ⟨c9', hf⟩
                    · cases hf
                      rw [if_neg (by omega)]; rfl
                    · exact absurd rfl c9'
                · skip
                  replace c8 := ti_eqN (a := v11) (b := (47 : Int32)) c8 rfl (show (47 : Int32).toInt = 47 from rfl)
                  unfold f_resultHere_137 f_resultHere_138 f_resultHere_148 at hf
                  rcases m_ifE hf with ⟨c9', hf⟩ | ⟨c9', hf⟩
                  · cases hf
                    rw [if_neg (by omega)]; rfl
                  · exact absurd rfl c9'
              · skip
                replace c7 := ti_eqN (a := v9) (b := (49 : Int32)) c7 rfl (show (49 : Int32).toInt = 49 from rfl)
                unfold f_resultHere_137 f_resultHere_138 f_resultHere_148 at hf
                rcases m_ifE hf with ⟨c9', hf⟩ | ⟨c9', hf⟩
                · cases hf
                  rw [if_neg (by omega)]; rfl
                · exact absurd rfl c9'
            · skip
              replace c6 := ti_eqN (a := v7) (b := (45 : Int32)) c6 rfl (show (45 : Int32).toInt = 45 from rfl)
              unfold f_resultHere_137 f_resultHere_138 f_resultHere_148 at hf
              rcases m_ifE hf with ⟨c9', hf⟩ | ⟨c9', hf⟩
              · cases hf
                rw [if_neg (by omega)]; rfl
              · exact absurd rfl c9'
      · skip
        replace c3 := ti_eqN (a := r3) (b := (0 : Int32)) c3 rfl (show (0 : Int32).toInt = 0 from rfl)
        cases hf
        try dsimp only
        rw [if_pos (q3.1 (by omega))]; rfl
    · skip
      replace c2 := ti_eqN (a := r2) (b := (0 : Int32)) c2 rfl (show (0 : Int32).toInt = 0 from rfl)
      cases hf
      try dsimp only
      rw [if_pos (q2.1 (by omega))]; rfl
end RSH
end
section
/-- which references may change while a game is read -/
noncomputable def vPk (k : Nat) : Bool := k == 6 || k == 5
/-- a cell stays as it was -/
noncomputable def EQc (S S' : ZS) (a : Nat) : Prop := zK S' a = zK S a ∧ zN S' a = zN S a ∧ (∀ j, zI S' j a = zI S j a) ∧ (∀ j, zP S' j a = zP S j a) ∧ zB S' a = zB S a ∧ (zK S a ≠ 13 → zA S' a = zA S a) ∧ (zK S a = 6 → ∀ c, zP S 0 a = some c → zA S' c = zA S c)
/-- only cells with W change -/
noncomputable def FR (W : Nat → Prop) (S S' : ZS) : Prop := ∀ a, zK S a < 18 → (zK S' a = zK S a ∧ zN S' a = zN S a ∧ (vPk (zK S a) = false → ∀ j, zP S' j a = zP S j a) ∧ (zK S a = 15 → zB S' a = zB S a)) ∧ (¬ W a → EQc S S' a)
section FRS
variable {S S1 S2 S' : ZS} {a b x : Nat} {W V : Nat → Prop}
theorem eqc_0 : EQc S S a := ⟨rfl, rfl, fun _ => rfl, fun _ => rfl, rfl, fun _ => rfl, fun _ _ _ => rfl⟩
theorem eqc_t (h : EQc S S1 a) (g : EQc S1 S2 a) : EQc S S2 a := by
  obtain ⟨h1, h2, h3, h4, h5, h6, h7⟩ := h
  obtain ⟨g1, g2, g3, g4, g5, g6, g7⟩ := g
  exact ⟨g1.trans h1, g2.trans h2, fun j => (g3 j).trans (h3 j), fun j => (g4 j).trans (h4 j), g5.trans h5, fun hk => (g6 (by rw [h1]; exact hk)).trans (h6 hk), fun hk c hc => (g7 (by rw [h1]; exact hk) c (by rw [h4]; exact hc)).trans (h7 hk c hc)⟩
theorem fr_0 : FR W S S := fun _ _ => ⟨⟨rfl, rfl, fun _ _ => rfl, fun _ => rfl⟩, fun _ => eqc_0⟩
theorem fr_t (h : FR W S S1) (g : FR W S1 S2) : FR W S S2 := fun a ha => by
  obtain ⟨⟨h1, h2, h3, h4⟩, h5⟩ := h a ha
  obtain ⟨⟨g1, g2, g3, g4⟩, g5⟩ := g a (by rw [h1]; exact ha)
  exact ⟨⟨g1.trans h1, g2.trans h2, fun hv j => (g3 (by rw [h1]; exact hv) j).trans (h3 hv j), fun hk => (g4 (by rw [h1]; exact hk)).trans (h4 hk)⟩, fun hw => eqc_t (h5 hw) (g5 hw)⟩
theorem fr_m (h : FR W S S') (hm : ∀ a, zK S a < 18 → W a → V a) : FR V S S' := fun a ha => ⟨(h a ha).1, fun hv => (h a ha).2 (fun hw => hv (hm a ha hw))⟩
theorem fr_k (h : FR W S S') (ha : zK S a < 18) : zK S' a = zK S a := (h a ha).1.1
theorem fr_e (h : FR W S S') (ha : zK S a < 18) (hw : ¬ W a) : EQc S S' a := (h a ha).2 hw
theorem fr_I {j : Nat} {v : Int32} (e : S' = zsI S j x v) : FR (fun a => a = x) S S' := by
  subst e
  exact fun a _ => ⟨⟨rfl, rfl, fun _ _ => rfl, fun _ => rfl⟩, fun hw => ⟨rfl, rfl, fun i => zI_b hw, fun _ => rfl, rfl, fun _ => rfl, fun _ _ _ => rfl⟩⟩
theorem fr_r (h : RWF S S' b) (hk : zK S b = 6) : FR (fun a => a = b) S S' := fun a ha => by
  obtain ⟨h1, h2, h3, h4, h5, h6, h7⟩ := h
  refine ⟨⟨(h1 a ha).1, (h1 a ha).2, fun hv j => ?_, fun _ => h6 a ha⟩, fun hw => ⟨(h1 a ha).1, (h1 a ha).2, fun j => (h2 a j ha hw).1, fun j => (h2 a j ha hw).2, h6 a ha, h5 a ha, fun hk c hc => h7 a c hk hw hc⟩⟩
  by_cases e : a = b
  · rw [e, hk] at hv; exact absurd hv (by decide)
  · exact (h2 a j ha e).2
theorem row_c {c : Nat} (hT : ZT S) (hk : zK S a = 6) (hc : zP S 0 a = some c) : c = 0 ∨ zK S c = 13 := by
  obtain ⟨b, h1, h2, -⟩ := hT.2.1 a hk
  rw [h1] at hc
  cases hc
  exact h2
theorem row_n {c : Nat} (hT : ZT S) (hk : zK S a = 6) (hc : zP S 0 a = some c) (hx : zK S x < 18) (h13 : zK S x ≠ 13) : c ≠ x := fun e => by
  rcases row_c hT hk hc with h | h
  · rw [← e, h] at hx
    have := hT.2.2.2.2.2.1
    omega
  · rw [e] at h; exact h13 h
theorem fr_A {i : Nat} {v : Int32} (hT : ZT S) (hk : zK S x = 14) (e : S' = zsA S x i v) : FR (fun a => a = x) S S' := by
  subst e
  have oth : ∀ c, c ≠ x → zA (zsA S x i v) c = zA S c := fun c hc => by show va_up (zA S) x _ c = _; exact va_up_ne _ _ hc
  exact fun a _ => ⟨⟨rfl, rfl, fun _ _ => rfl, fun _ => rfl⟩, fun hw => ⟨rfl, rfl, fun _ => rfl, fun _ => rfl, rfl, fun _ => oth a hw, fun h6 c hc => oth c (row_n hT h6 hc (by rw [hk]; decide) (by rw [hk]; decide))⟩⟩
theorem fr_x (h : SXf S S' x) : FR (fun a => a = x) S S' := fun a _ => ⟨⟨by rw [h.1], by rw [h.2.2.1], fun _ _ => by rw [h.2.1], fun _ => by rw [h.2.2.2.2.1]⟩, fun hw => ⟨by rw [h.1], by rw [h.2.2.1], fun j => h.2.2.2.2.2 j a hw, fun _ => by rw [h.2.1], by rw [h.2.2.2.2.1], fun _ => by rw [h.2.2.2.1], fun _ c _ => by rw [h.2.2.2.1]⟩⟩
theorem fr_b (hT : ZT S) (hk : zK S (b + 1) = 14) (h : SB S S' b) : FR (fun a => a = b ∨ a = b + 1) S S' := fun a _ => by
  obtain ⟨⟨-, -, e1, e2, e3⟩, h2, h3, h4, -⟩ := h
  refine ⟨⟨by rw [e1], by rw [e2], fun _ _ => by rw [h2], fun _ => by rw [e3]⟩, fun hw => ⟨by rw [e1], by rw [e2], fun j => h3 j a (fun e => hw (Or.inl e)), fun _ => by rw [h2], by rw [e3], fun _ => h4 a (fun e => hw (Or.inr e)), fun h6 c hc => h4 c (row_n hT h6 hc (by rw [hk]; decide) (by rw [hk]; decide))⟩⟩
theorem fr_mt {x0 rw tb ab fa : Nat} (h : MTF S S' x0 rw tb ab fa) (hk : zK S rw = 6) : FR (fun a => a = x0 ∨ a = rw ∨ a = tb ∨ a = ab ∨ a = tb + 1 ∨ a = ab + 1 ∨ a = fa) S S' := fun a ha => by
  obtain ⟨h1, h2, h3, h4, h5, h6⟩ := h
  refine ⟨⟨(h1 a ha).1, (h1 a ha).2, fun hv j => ?_, fun _ => h5 a ha⟩, fun hw => ⟨(h1 a ha).1, (h1 a ha).2, fun j => h2 a j ha (fun e => hw (Or.inl e)) (fun e => hw (Or.inr (Or.inl e))) (fun e => hw (Or.inr (Or.inr (Or.inl e)))) (fun e => hw (Or.inr (Or.inr (Or.inr (Or.inl e))))), fun j => h3 a j ha (Or.inl (fun e => hw (Or.inr (Or.inl e)))), h5 a ha, fun k13 => h4 a ha k13 (fun e => hw (Or.inr (Or.inr (Or.inr (Or.inr (Or.inl e)))))) (fun e => hw (Or.inr (Or.inr (Or.inr (Or.inr (Or.inr (Or.inl e))))))) (fun e => hw (Or.inr (Or.inr (Or.inr (Or.inr (Or.inr (Or.inr e))))))), fun k6 c hc => h6 a c k6 (fun e => hw (Or.inr (Or.inl e))) hc⟩⟩
  by_cases e : a = rw
  · rw [e, hk] at hv; exact absurd hv (by decide)
  · exact h3 a j ha (Or.inl e)
theorem fr_g {x0 nr vr : Nat} (h : GRF S S' x0 nr vr) (kn : zK S nr = 6) (kv : zK S vr = 6) : FR (fun a => a = x0 ∨ a = nr ∨ a = vr) S S' := fun a ha => by
  obtain ⟨h1, h2, h3, h4, h5, h6⟩ := h
  refine ⟨⟨(h1 a ha).1, (h1 a ha).2, fun hv j => ?_, fun _ => h5 a ha⟩, fun hw => ⟨(h1 a ha).1, (h1 a ha).2, fun j => h2 a j ha (fun e => hw (Or.inr (Or.inl e))) (fun e => hw (Or.inr (Or.inr e))) (fun e => hw (Or.inl e.1)), fun j => h3 a j ha (fun e => hw (Or.inr (Or.inl e))) (fun e => hw (Or.inr (Or.inr e))), h5 a ha, fun k13 => h4 a ha k13, fun k6 c hc => h6 a c k6 (fun e => hw (Or.inr (Or.inl e))) (fun e => hw (Or.inr (Or.inr e))) hc⟩⟩
  by_cases e : a = nr
  · rw [e, kn] at hv; exact absurd hv (by decide)
  · by_cases e2 : a = vr
    · rw [e2, kv] at hv; exact absurd hv (by decide)
    · exact h3 a j ha e e2
theorem fr_pf {x0 bb : Nat} (hT : ZT S) (hk : zK S (bb + 1) = 14) (h : PFr S S' x0 bb) : FR (fun a => a = x0 ∨ a = bb ∨ a = bb + 1) S S' := fun a _ => by
  obtain ⟨⟨-, -, e1, e2, e3⟩, h2, h3, h4, -⟩ := h
  exact ⟨⟨by rw [e1], by rw [e2], fun _ _ => by rw [h2], fun _ => by rw [e3]⟩, fun hw => ⟨by rw [e1], by rw [e2], fun j => h3 j a (fun e => hw (Or.inl e)) (fun e => hw (Or.inr (Or.inl e))), fun _ => by rw [h2], by rw [e3], fun _ => h4 a (fun e => hw (Or.inr (Or.inr e))), fun h6 c hc => h4 c (row_n hT h6 hc (by rw [hk]; decide) (by rw [hk]; decide))⟩⟩
theorem fr_P {j : Nat} {v : Option Nat} (hk : vPk (zK S x) = true) (e : S' = zsP S j x v) : FR (fun a => a = x) S S' := by
  subst e
  have oth : ∀ a i, a ≠ x → zP (zsP S j x v) i a = zP S i a := fun a i hc => by
    show va_up (zP S) j (va_up (zP S j) x v) i a = _
    by_cases e : i = j
    · rw [e, va_up_self, va_up_ne _ _ hc]
    · rw [va_up_ne _ _ e]
  exact fun a _ => ⟨⟨rfl, rfl, fun hv i => oth a i (fun e => by rw [e, hk] at hv; cases hv), fun _ => rfl⟩, fun hw => ⟨rfl, rfl, fun _ => rfl, fun i => oth a i hw, rfl, fun _ => rfl, fun _ _ _ => rfl⟩⟩
theorem eqc_rw (h : EQc S S' a) (hk : zK S a = 6) : rwC S' a = rwC S a := by
  obtain ⟨-, -, h3, h4, -, -, h7⟩ := h
  funext i
  unfold rwC
  rw [h3, h4]
  cases he : zP S 0 a with
  | none => rfl
  | some c =>
    have e := h7 hk c he
    simp only [e]
theorem eqc_rl {w : List Int} (h : EQc S S' a) (hk : zK S a = 6) (hl : RWL S a w) : RWL S' a w := ⟨by rw [h.2.2.1]; exact hl.1, fun i => by rw [eqc_rw h hk]; exact hl.2 i⟩
theorem eqc_mB (h : EQc S S' b) (h1 : EQc S S' (b + 1)) (hp : zP S 0 b = some (b + 1)) (hk : zK S (b + 1) = 14) : mCb S' b = mCb S b := mB_e (h.2.2.2.1 0) (fun c hc => by
  rw [hp] at hc
  cases hc
  exact h1.2.2.2.2.2.1 (by rw [hk]; decide))
end FRS
/-- blanks skipped -/
noncomputable def blk (ch : Int → Int) (p : Int) : Int := @dite _ (∃ b, BL ch p b) (Classical.propDecidable _) (fun h => Classical.choose h) (fun _ => p)
theorem blk_e {ch : Int → Int} {p b : Int} (h : BL ch p b) : blk ch p = b := by
  have h2 : ∃ b, BL ch p b := ⟨b, h⟩
  unfold blk
  rw [dif_pos h2]
  exact bl_u (Classical.choose_spec h2) h
/-- the reader at its text: the row 2 -/
noncomputable def LW (S : ZS) (ch : Int → Int) (N p : Int) : Prop := ZT S ∧ (zK S 23 = 2 ∧ zP S 2 23 = some 2 ∧ zK S 2 = 6) ∧ (rwC S 2 = ch ∧ (zI S 1 2).toInt = N ∧ (0 ≤ N ∧ N ≤ 2000)) ∧ (∀ i, 0 ≤ ch i ∧ ch i ≤ 127) ∧ (zI S 4 23).toInt = p ∧ 0 ≤ p ∧ p ≤ 90000
section LWS
variable {S S1 S2 S' : ZS} {ch : Int → Int} {N p q : Int} {o : Int32 × ZS} {W : Nat → Prop} {x1 : Int32}
theorem lw_fr (h : LW S ch N p) (hT : ZT S') (hF : FR W S S') (h2 : ¬ W 2) (h4 : (zI S' 4 23).toInt = q) (hq : 0 ≤ q ∧ q ≤ 90000) : LW S' ch N q := by
  obtain ⟨-, ⟨k23, p2, k2⟩, ⟨hc, hN, hn⟩, hcb, -⟩ := h
  have e2 := fr_e hF (by rw [k2]; decide) h2
  have e23 := (hF 23 (by rw [k23]; decide)).1
  exact ⟨hT, ⟨e23.1.trans k23, (e23.2.2.1 (by rw [k23]; decide) 2).trans p2, e2.1.trans k2⟩, ⟨by rw [eqc_rw e2 k2]; exact hc, by rw [e2.2.2.1]; exact hN, hn⟩, hcb, h4, hq⟩
theorem lw_at {v : Int32} (h : LW S ch N p) (e : S' = zsI S 4 23 v) (hv : v.toInt = q) (hq : 0 ≤ q ∧ q ≤ 90000) : LW S' ch N q :=
  lw_fr h (e.symm ▸ zt_I h.1 h.2.1.1 (by decide) (show (0 : Int) ≤ v.toInt ∧ v.toInt ≤ (90100 : Int) by omega)) (fr_I e) (by decide) (by rw [e, zI_self]; exact hv) hq
theorem lw_fl {v : Int32} (h : LW S ch N p) (e : S' = zsI S 5 23 v) : LW S' ch N p :=
  lw_fr h (e.symm ▸ zt_W h.1 h.2.1.1 (by decide) rfl) (fr_I e) (by decide) (by rw [e, zI_j (by decide)]; exact h.2.2.2.2.1) h.2.2.2.2.2
theorem lw_bl (h : LW S ch N p) (hf : f_X2_skipBlanks 23 S = some o) : BL ch p (blk ch p) ∧ LW o.2 ch N (blk ch p) ∧ FR (fun a => a = 23) S o.2 ∧ (blk ch p ≤ p ∨ blk ch p ≤ N) := by
  obtain ⟨hT, ⟨k23, p2, k2⟩, ⟨hc, hN, hn⟩, hcb, h4, hp⟩ := id h
  obtain ⟨v, g1, g2, g3⟩ := p_skipBlanks k23 k2 p2 hc (by omega) (by omega) hf
  rw [h4] at g1 g3
  rw [hN] at g3
  have e := blk_e g1
  have := g1.1
  rw [e]
  exact ⟨g1, lw_at h g2 rfl (by omega), fr_I g2, g3⟩
theorem lw_out (h : LW S ch N p) {i : Int} (hi : N ≤ i) : ch i = 0 := by
  obtain ⟨-, -, ⟨hc, hN, -⟩, -⟩ := h
  rw [← hc]; exact rw_out (by omega)
/-- a refusal -/
theorem lw_no {x2 : Int32} (h : LW S ch N p) (h1 : 0 ≤ x1.toInt ∧ x1.toInt ≤ 10) (h2 : 0 ≤ x2.toInt ∧ x2.toInt ≤ 100000) (hf : f_X2_refuse 23 x1 x2 S = some o) : o.1.toInt = 0 ∧ LW o.2 ch N p ∧ FR (fun a => a = 23) S o.2 := by
  obtain ⟨g1, v, -, g3⟩ := p_refuse h1 h2 hf
  exact ⟨g1, lw_fl h g3, fr_I g3⟩
end LWS
end
section
/-- where a sign stands first, from a place on -/
noncomputable def IX (ch : Int → Int) (N c a i : Int) : Prop := a ≤ i ∧ (∀ j, a ≤ j → j < i → ch j ≠ c) ∧ (N ≤ i ∨ ch i = c) ∧ (i ≤ a ∨ i ≤ N)
section IXS
variable {S : ZS} {x0 : Nat} {x1 x2 : Int32} {o : Int32 × ZS}
theorem ix_6 {a : Int} (hl : (zI S 1 x0).toInt ≤ 100000) : ∀ (n : Nat) (x3 : Int32), 0 ≤ a → a ≤ x3.toInt → (∀ j, a ≤ j → j < x3.toInt → rwC S x0 j ≠ x1.toInt) → (x3.toInt ≤ a ∨ x3.toInt ≤ (zI S 1 x0).toInt) → f_X6_indexOf_6 n x0 x1 x3 S = some o → o.2 = S ∧ IX (rwC S x0) (zI S 1 x0).toInt x1.toInt a o.1.toInt := by
  intro n
  induction n with
  | zero => intro x3 _ _ _ _ hf; cases hf
  | succ n ih =>
    intro x3 h0 ha hs hb hf
    have hf : f_X6_indexOf_6s (f_X6_indexOf_6 n) x0 x1 x3 S = some o := hf
    unfold f_X6_indexOf_6s at hf
    obtain ⟨-, hf⟩ := m_chkE hf
    rcases m_ifE hf with ⟨c1, hf⟩ | ⟨c1, hf⟩
    · skip
      replace c1 := ti_leP (a := (zI S 1 x0)) (b := x3) c1 rfl rfl
      unfold f_X6_indexOf_30 at hf
      cases hf
      try dsimp only
      exact ⟨rfl, ha, hs, Or.inl (by omega), hb⟩
    · skip
      replace c1 := ti_leN (a := (zI S 1 x0)) (b := x3) c1 rfl rfl
      obtain ⟨-, hf⟩ := m_chkE hf
      obtain ⟨b1, h_b1, hf⟩ := m_calE hf
      obtain ⟨-, hf⟩ := m_chkE hf
      obtain ⟨-, hf⟩ := m_chkE hf
      obtain ⟨v2, e_v2, hf⟩ := m_bndE hf
      have q2 := rw_at h_b1 e_v2 (by omega) (by omega)
      rcases m_ifE hf with ⟨c2, hf⟩ | ⟨c2, hf⟩
      · skip
        replace c2 := ti_eqP (a := v2) (b := x1) c2 rfl rfl
        unfold f_X6_indexOf_30 at hf
        cases hf
        try dsimp only
        exact ⟨rfl, ha, hs, Or.inr (by omega), hb⟩
      · skip
        replace c2 := ti_eqN (a := v2) (b := x1) c2 rfl rfl
        obtain ⟨v3, e_v3, hf⟩ := m_bndE hf
        have t_v3 : v3.toInt = x3.toInt + 1 := ti_add e_v3 rfl (show (1 : Int32).toInt = 1 from rfl) (by omega) (by omega)
        refine ih v3 h0 (by omega) (fun j j0 j1 => ?_) (by omega) hf
        by_cases e : j = x3.toInt
        · rw [e]; omega
        · exact hs j j0 (by omega)
theorem p_ixOf (hl : (zI S 1 x0).toInt ≤ 100000) (h2 : 0 ≤ x2.toInt) (hf : f_X6_indexOf x0 x1 x2 S = some o) : o.2 = S ∧ IX (rwC S x0) (zI S 1 x0).toInt x1.toInt x2.toInt o.1.toInt := by
  have hf : f_X6_indexOf_0 x0 x1 x2 S = some o := hf
  unfold f_X6_indexOf_0 at hf
  obtain ⟨v1, e1, hf⟩ := m_bndE hf
  have e2 : v1 = x2 := by
    rw [e1, if_neg (fun h => by have := Int32.lt_iff_toInt_lt.1 h; have z : (0 : Int32).toInt = 0 := rfl; omega)]
  rw [e2] at hf
  exact ix_6 hl mFuel x2 h2 (Int.le_refl _) (fun j j0 j1 => by omega) (Or.inl (Int.le_refl _)) hf
end IXS
/-- a remark that begins at p ends at q -/
noncomputable def RM1 (ch : Int → Int) (N p q : Int) : Prop := (ch p = 123 ∧ p + 1 ≤ q ∧ q < N ∧ ch q = 125 ∧ ∀ j, p + 1 ≤ j → j < q → ch j ≠ 125) ∨ (ch p = 59 ∧ p + 1 ≤ q ∧ q ≤ N ∧ (q = N ∨ ch q = 10) ∧ ∀ j, p + 1 ≤ j → j < q → ch j ≠ 10 ∧ ch j ≠ 125)
theorem rm1_u {ch : Int → Int} {N p q r : Int} (h : RM1 ch N p q) (g : RM1 ch N p r) : q = r := by
  rcases h with ⟨h1, h2, h3, h4, h5⟩ | ⟨h1, h2, h3, h4, h5⟩ <;> rcases g with ⟨g1, g2, g3, g4, g5⟩ | ⟨g1, g2, g3, g4, g5⟩
  · rcases Int.lt_trichotomy q r with l | l | l
    · exact absurd h4 (g5 q h2 l)
    · exact l
    · exact absurd g4 (h5 r g2 l)
  · omega
  · omega
  · rcases Int.lt_trichotomy q r with l | l | l
    · have := g5 q h2 l; omega
    · exact l
    · have := h5 r g2 l; omega
noncomputable def rm1 (ch : Int → Int) (N p : Int) : Option Int := @dite _ (∃ q, RM1 ch N p q) (Classical.propDecidable _) (fun h => some (Classical.choose h)) (fun _ => none)
theorem rm1_y {ch : Int → Int} {N p q : Int} (h : RM1 ch N p q) : rm1 ch N p = some q := by
  have h2 : ∃ q, RM1 ch N p q := ⟨q, h⟩
  unfold rm1
  rw [dif_pos h2, rm1_u (Classical.choose_spec h2) h]
theorem rm1_n {ch : Int → Int} {N p : Int} (h : ∀ q, ¬ RM1 ch N p q) : rm1 ch N p = none := dif_neg (fun ⟨q, g⟩ => h q g)
noncomputable def rmC (c : Int) : Int := if c = 10 then 32 else c
/-- the signs of a remark -/
noncomputable def rmL (ch : Int → Int) (a : Int) : Nat → List Int
  | 0 => []
  | k + 1 => rmL ch a k ++ [rmC (ch (a + (k : Int)))]
theorem rmL_l {ch : Int → Int} {a : Int} : ∀ k, (rmL ch a k).length = k
  | 0 => rfl
  | k + 1 => by
    show (rmL ch a k ++ [rmC (ch (a + (k : Int)))]).length = k + 1
    rw [List.length_append, rmL_l k]
    rfl
/-- a remark joined to what is there -/
noncomputable def jnR (r : List Int) (ch : Int → Int) (a : Int) (k : Nat) : List Int := if k = 0 then r else (if r = [] then [] else r ++ [32]) ++ rmL ch a k
theorem jnR_l {r : List Int} {ch : Int → Int} {a : Int} {k : Nat} : ((jnR r ch a k).length : Int) = (r.length : Int) + (k : Int) + (if k = 0 ∨ r = [] then 0 else 1) := by
  unfold jnR
  by_cases h : k = 0
  · rw [if_pos h, if_pos (Or.inl h), h]; omega
  · rw [if_neg h, List.length_append, rmL_l]
    by_cases g : r = []
    · rw [if_pos g, if_pos (Or.inr g), g]; simp
    · rw [if_neg g, if_neg (fun e => e.elim h g), List.length_append]
      have : ([32] : List Int).length = 1 := rfl
      omega
/-- remarks from p on (behind blanks) -/
noncomputable def rmkP (ch : Int → Int) (N : Int) : Nat → Int → List Int → Option (Int × List Int)
  | 0, _, _ => none
  | k + 1, p, r => if ch p = 123 ∨ ch p = 59 then (match rm1 ch N p with
    | none => none
    | some q => if ((jnR r ch (p + 1) (q - (p + 1)).toNat).length : Int) ≤ 200 then rmkP ch N k (blk ch (if ch p = 123 then q + 1 else q)) (jnR r ch (p + 1) (q - (p + 1)).toNat) else none) else some (p, r)
section RKS
variable {ch : Int → Int} {N p q : Int} {k : Nat} {r : List Int}
theorem rkP_0 (h : ¬ (ch p = 123 ∨ ch p = 59)) : rmkP ch N (k + 1) p r = some (p, r) := if_neg h
theorem rkP_n (h : ch p = 123 ∨ ch p = 59) (g : ∀ q, ¬ RM1 ch N p q) : rmkP ch N (k + 1) p r = none := by
  show (if _ then (match rm1 ch N p with | none => none | some q => _) else _) = _
  rw [if_pos h, rm1_n g]
theorem rm1_c (h : RM1 ch N p q) : ch p = 123 ∨ ch p = 59 := h.elim (fun h => Or.inl h.1) (fun h => Or.inr h.1)
theorem rkP_l (h : RM1 ch N p q) (g : 200 < ((jnR r ch (p + 1) (q - (p + 1)).toNat).length : Int)) : rmkP ch N (k + 1) p r = none := by
  show (if _ then (match rm1 ch N p with | none => none | some q => _) else _) = _
  rw [if_pos (rm1_c h), rm1_y h]
  exact if_neg (by omega)
theorem rkP_s (h : RM1 ch N p q) (g : ((jnR r ch (p + 1) (q - (p + 1)).toNat).length : Int) ≤ 200) : rmkP ch N (k + 1) p r = rmkP ch N k (blk ch (if ch p = 123 then q + 1 else q)) (jnR r ch (p + 1) (q - (p + 1)).toNat) := by
  show (if _ then (match rm1 ch N p with | none => none | some q => _) else _) = _
  rw [if_pos (rm1_c h), rm1_y h]
  exact if_pos g
end RKS
/-- a node with its remark -/
noncomputable def NDo (S : ZS) (x : Nat) (r : List Int) : Prop := (zK S x = 4 ∧ zP S 6 x = some (x + 1) ∧ zK S (x + 1) = 6 ∧ rc (x + 1) = 0) ∧ RWL S (x + 1) r
section JRS
variable {S0 S S' : ZS} {x0 : Nat} {ch : Int → Int} {N a : Int} {u r : List Int} {o : Int32 × ZS} {x2 x3 : Int32}
theorem ndo_fr {W : Nat → Prop} (h : NDo S x0 r) (hF : FR W S S') (hr : RWL S' (x0 + 1) u) : NDo S' x0 u := by
  obtain ⟨⟨k4, p6, k6, hrc⟩, -⟩ := h
  have e := (hF x0 (by rw [k4]; decide)).1
  exact ⟨⟨e.1.trans k4, (e.2.2.1 (by rw [k4]; decide) 6).trans p6, (fr_k hF (by rw [k6]; decide)).trans k6, hrc⟩, hr⟩
theorem rcz_2 {b : Nat} (h : rc b = 0) : b ≠ 2 := fun e => by rw [e] at h; exact absurd h (by decide)
/-- a sign more in a node's remark -/
theorem jr_put {c y : Int32} (hT : ZT S) (h : NDo S x0 u) (hl : (u.length : Int) < 200) (hc : 0 ≤ c.toInt ∧ c.toInt ≤ 65535) (hf : d_X6_put (x0 + 1) c S = some (y, S')) : ZT S' ∧ NDo S' x0 (u ++ [c.toInt]) ∧ FR (fun a => a = x0 + 1) S S' := by
  obtain ⟨⟨k4, p6, k6, hrc⟩, hu⟩ := id h
  have rl : rL (x0 + 1) = 200 := by
    unfold rL
    rw [hrc, if_neg (by decide), if_neg (by decide)]
  have T1 : ZT S' := (ok_of (t_d_X6_put (SZ := S) hT (rp_0 S) k6 hc (by rw [rl, hu.1]; exact hl) (by rw [hrc]; decide)) hf).1
  obtain ⟨g1, g2⟩ := p_rput hT k6 hu (by omega) hc hf
  exact ⟨T1, ndo_fr h (fr_r g2 k6) g1, fr_r g2 k6⟩
theorem jr_64 (hcb : ∀ i, 0 ≤ ch i ∧ ch i ≤ 127) (ha : 0 ≤ a) (h3 : a ≤ x3.toInt ∧ x3.toInt ≤ 3000) (hl : (u.length : Int) + (x3.toInt - a) ≤ 200) (hch : rwC S0 2 = ch) (k2 : zK S0 2 = 6) : ∀ (n : Nat) (x5 : Int32) (S : ZS) (k : Nat), x5.toInt = a + (k : Int) → a + (k : Int) ≤ x3.toInt → ZT S → FR (fun a => a = x0 + 1) S0 S → NDo S x0 (u ++ rmL ch a k) → d_X4_joinRemark_64 n x0 2 x3 x5 S = some o → o.1.toInt = 1 ∧ ZT o.2 ∧ FR (fun a => a = x0 + 1) S0 o.2 ∧ NDo o.2 x0 (u ++ rmL ch a (x3.toInt - a).toNat) := by
  intro n
  induction n with
  | zero => intro x5 S k _ _ _ _ _ hf; cases hf
  | succ n ih =>
    intro x5 S k hx hk hT hF hN hf
    have hf : d_X4_joinRemark_64s (d_X4_joinRemark_64 n) x0 2 x3 x5 S = some o := hf
    obtain ⟨⟨k4, p6, k6, hrc⟩, hu⟩ := id hN
    have n2 := rcz_2 hrc
    have e2 := fr_e hF (by rw [k2]; decide) (fun e => n2 e.symm)
    have hc : rwC S 2 = ch := by rw [eqc_rw e2 k2]; exact hch
    have b0 := hcb (a + (k : Int))
    have ll : ((u ++ rmL ch a k).length : Int) = (u.length : Int) + (k : Int) := by rw [List.length_append, rmL_l]; omega
    have more : ∀ (c : Int32) (S1 : ZS), S1 = S → c.toInt = rmC (ch (a + (k : Int))) → x5.toInt < x3.toInt → d_X4_joinRemark_96 (d_X4_joinRemark_64 n) x0 2 x3 x5 c (x0 + 1) S1 = some o → o.1.toInt = 1 ∧ ZT o.2 ∧ FR (fun a => a = x0 + 1) S0 o.2 ∧ NDo o.2 x0 (u ++ rmL ch a (x3.toInt - a).toNat) := by
      intro c S1 e1 hcc hlt hf
      rw [e1] at hf
      unfold d_X4_joinRemark_96 at hf
      obtain ⟨-, hf⟩ := m_chkE hf
      obtain ⟨⟨r2, S3⟩, h_r2, hf⟩ := m_cal2E hf
      dsimp only at hf
      obtain ⟨v6, e6, hf⟩ := m_bndE hf
      have t6 : v6.toInt = x5.toInt + 1 := ti_add e6 rfl (show (1 : Int32).toInt = 1 from rfl) (by omega) (by omega)
      have cb : 0 ≤ c.toInt ∧ c.toInt ≤ 65535 := by
        rw [hcc]; unfold rmC
        split <;> omega
      obtain ⟨T3, N3, F3⟩ := jr_put hT hN (by omega) cb h_r2
      rw [hcc, List.append_assoc] at N3
      exact ih v6 S3 (k + 1) (by omega) (by omega) T3 (fr_t hF F3) N3 hf
    unfold d_X4_joinRemark_64s at hf
    rcases m_ifE hf with ⟨c1, hf⟩ | ⟨c1, hf⟩
    · skip
      replace c1 := ti_leP (a := x3) (b := x5) c1 rfl rfl
      obtain ⟨-, hf⟩ := m_chkE hf
      cases hf
      try dsimp only
      have ek : (x3.toInt - a).toNat = k := by omega
      rw [ek]
      exact ⟨rfl, hT, hF, hN⟩
    · skip
      replace c1 := ti_leN (a := x3) (b := x5) c1 rfl rfl
      obtain ⟨-, hf⟩ := m_chkE hf
      replace hf := m_calY hf p6
      obtain ⟨-, hf⟩ := m_chkE hf
      obtain ⟨r2, h_r2, hf⟩ := m_calR hf (fun _ h => ro_X6_at h)
      dsimp only at hf
      have p_r2 := pc_X6_at h_r2
      dsimp only at p_r2
      rw [hc, hx] at p_r2
      obtain ⟨-, hf⟩ := m_chkE hf
      rcases m_ifE hf with ⟨c2, hf⟩ | ⟨c2, hf⟩
      · skip
        replace c2 := ti_eqP (a := r2) (b := (10 : Int32)) c2 rfl (show (10 : Int32).toInt = 10 from rfl)
        exact more 32 S rfl (by unfold rmC; rw [if_pos (by omega)]; rfl) (by omega) hf
      · skip
        replace c2 := ti_eqN (a := r2) (b := (10 : Int32)) c2 rfl (show (10 : Int32).toInt = 10 from rfl)
        obtain ⟨-, hf⟩ := m_chkE hf
        obtain ⟨r3, h_r3, hf⟩ := m_calR hf (fun _ h => ro_X6_at h)
        dsimp only at hf
        have p_r3 := pc_X6_at h_r3
        dsimp only at p_r3
        rw [hc, hx] at p_r3
        obtain ⟨-, hf⟩ := m_chkE hf
        exact more r3 S rfl (by unfold rmC; rw [if_neg (by omega)]; exact p_r3) (by omega) hf
theorem jr_22 {t0 : Int32} (hcb : ∀ i, 0 ≤ ch i ∧ ch i ≤ 127) (hT : ZT S) (hN : NDo S x0 r) (hch : rwC S 2 = ch) (k2 : zK S 2 = 6) (h2 : 0 ≤ x2.toInt) (h3 : x2.toInt < x3.toInt ∧ x3.toInt ≤ 3000) (ht : t0.toInt = if r = [] then 0 else 1) (hr : (r.length : Int) ≤ 200) (hf : d_X4_joinRemark_22 x0 2 x2 x3 t0 S = some o) : (o.1.toInt = 1 ∧ ((jnR r ch x2.toInt (x3.toInt - x2.toInt).toNat).length : Int) ≤ 200 ∧ ZT o.2 ∧ FR (fun a => a = x0 + 1) S o.2 ∧ NDo o.2 x0 (jnR r ch x2.toInt (x3.toInt - x2.toInt).toNat)) ∨ (o.1.toInt = 0 ∧ o.2 = S ∧ 200 < ((jnR r ch x2.toInt (x3.toInt - x2.toInt).toNat).length : Int)) := by
  obtain ⟨⟨k4, p6, k6, hrc⟩, hu⟩ := id hN
  have n2 := rcz_2 hrc
  have l1 := hu.1
  have kn : (x3.toInt - x2.toInt).toNat ≠ 0 := by omega
  have jl := jnR_l (r := r) (ch := ch) (a := x2.toInt) (k := (x3.toInt - x2.toInt).toNat)
  have el : ((jnR r ch x2.toInt (x3.toInt - x2.toInt).toNat).length : Int) = (r.length : Int) + (x3.toInt - x2.toInt) + t0.toInt := by
    rw [jl, ht]
    by_cases g : r = []
    · rw [if_pos (Or.inr g), if_pos g]; omega
    · rw [if_neg (fun e => e.elim kn g), if_neg g]; omega
  have tb : t0.toInt = 0 ∨ t0.toInt = 1 := by rw [ht]; split <;> omega
  unfold d_X4_joinRemark_22 at hf
  obtain ⟨-, hf⟩ := m_chkE hf
  replace hf := m_calY hf p6
  obtain ⟨-, hf⟩ := m_chkE hf
  obtain ⟨r2, h_r2, hf⟩ := m_calR hf (fun _ h => ro_X6_size h)
  dsimp only at hf
  have p_r2 := pc_X6_size h_r2
  dsimp only at p_r2
  have q2 : r2.toInt = (r.length : Int) := by rw [p_r2]; exact l1
  obtain ⟨-, hf⟩ := m_chkE hf
  obtain ⟨v3, e_v3, hf⟩ := m_bndE hf
  have t_v3 : v3.toInt = r2.toInt + t0.toInt := ti_add e_v3 rfl rfl (by omega) (by omega)
  obtain ⟨v4, e_v4, hf⟩ := m_bndE hf
  have t_v4 : v4.toInt = v3.toInt + x3.toInt := ti_add e_v4 rfl rfl (by omega) (by omega)
  obtain ⟨v5, e_v5, hf⟩ := m_bndE hf
  have t_v5 : v5.toInt = v4.toInt - x2.toInt := ti_sub e_v5 rfl rfl (by omega) (by omega)
  rcases m_ifE hf with ⟨c1, hf⟩ | ⟨c1, hf⟩
  · skip
    replace c1 := ti_leP (a := v5) (b := (200 : Int32)) c1 rfl (show (200 : Int32).toInt = 200 from rfl)
    rcases m_ifE hf with ⟨c2, hf⟩ | ⟨c2, hf⟩
    · skip
      replace c2 := ti_eqP (a := t0) (b := (1 : Int32)) c2 rfl (show (1 : Int32).toInt = 1 from rfl)
      obtain ⟨-, hf⟩ := m_chkE hf
      replace hf := m_calY hf p6
      obtain ⟨-, hf⟩ := m_chkE hf
      obtain ⟨⟨r8, S9⟩, h_r8, hf⟩ := m_cal2E hf
      dsimp only at hf
      have rn : r ≠ [] := fun e => by rw [if_pos e] at ht; omega
      obtain ⟨T9, N9, F9⟩ := jr_put (c := 32) hT hN (by omega) (by decide) h_r8
      have e32 : (32 : Int32).toInt = 32 := rfl
      rw [e32] at N9
      have k29 := fr_e F9 (show zK S 2 < 18 by rw [k2]; decide) (fun e => n2 e.symm)
      have al : ((r ++ [32]).length : Int) = (r.length : Int) + 1 := by rw [List.length_append]; rfl
      obtain ⟨a1, a2, a3, a4⟩ := jr_64 (S0 := S9) (u := r ++ [32]) (a := x2.toInt) hcb h2 (by omega) (by omega) (by rw [eqc_rw k29 k2]; exact hch) (k29.1.trans k2) mFuel x2 S9 0 (by omega) (by omega) T9 fr_0 (by show NDo S9 x0 ((r ++ [32]) ++ []); rw [List.append_nil]; exact N9) hf
      refine Or.inl ⟨a1, by omega, a2, fr_t F9 a3, ?_⟩
      unfold jnR
      rw [if_neg kn, if_neg rn]
      exact a4
    · skip
      replace c2 := ti_eqN (a := t0) (b := (1 : Int32)) c2 rfl (show (1 : Int32).toInt = 1 from rfl)
      have rn : r = [] := Classical.byContradiction (fun e => by rw [if_neg e] at ht; omega)
      obtain ⟨a1, a2, a3, a4⟩ := jr_64 (S0 := S) (u := []) (a := x2.toInt) hcb h2 (by omega) (by show (0 : Int) + _ ≤ 200; omega) hch k2 mFuel x2 S 0 (by omega) (by omega) hT fr_0 (by show NDo S x0 []; rw [← rn]; exact hN) hf
      refine Or.inl ⟨a1, by omega, a2, a3, ?_⟩
      unfold jnR
      rw [if_neg kn, if_pos rn]
      exact a4
  · skip
    replace c1 := ti_leN (a := v5) (b := (200 : Int32)) c1 rfl (show (200 : Int32).toInt = 200 from rfl)
    obtain ⟨-, hf⟩ := m_chkE hf
    cases hf
    try dsimp only
    exact Or.inr ⟨rfl, rfl, by omega⟩
/-- a remark joined by the class -/
theorem p_join (hcb : ∀ i, 0 ≤ ch i ∧ ch i ≤ 127) (hT : ZT S) (hN : NDo S x0 r) (hch : rwC S 2 = ch) (k2 : zK S 2 = 6) (h2 : 0 ≤ x2.toInt) (h3 : x2.toInt ≤ x3.toInt ∧ x3.toInt ≤ 3000) (hr : (r.length : Int) ≤ 200) (hf : d_X4_joinRemark x0 2 x2 x3 S = some o) : (o.1.toInt = 1 ∧ ((jnR r ch x2.toInt (x3.toInt - x2.toInt).toNat).length : Int) ≤ 200 ∧ ZT o.2 ∧ FR (fun a => a = x0 + 1) S o.2 ∧ NDo o.2 x0 (jnR r ch x2.toInt (x3.toInt - x2.toInt).toNat)) ∨ (o.1.toInt = 0 ∧ o.2 = S ∧ 200 < ((jnR r ch x2.toInt (x3.toInt - x2.toInt).toNat).length : Int)) := by
  have hf : d_X4_joinRemark_0 x0 2 x2 x3 S = some o := hf
  obtain ⟨⟨k4, p6, k6, hrc⟩, hu⟩ := id hN
  have l1 := hu.1
  have z0 : (0 : Int32).toInt = 0 := rfl
  have z1 : (1 : Int32).toInt = 1 := rfl
  unfold d_X4_joinRemark_0 at hf
  rcases m_ifE hf with ⟨c1, hf⟩ | ⟨c1, hf⟩
  · skip
    replace c1 := ti_ltP (a := x2) (b := x3) c1 rfl rfl
    obtain ⟨-, hf⟩ := m_chkE hf
    replace hf := m_calY hf p6
    obtain ⟨-, hf⟩ := m_chkE hf
    obtain ⟨r2, h_r2, hf⟩ := m_calR hf (fun _ h => ro_X6_size h)
    dsimp only at hf
    have p_r2 := pc_X6_size h_r2
    dsimp only at p_r2
    have q2 : r2.toInt = (r.length : Int) := by rw [p_r2]; exact l1
    obtain ⟨-, hf⟩ := m_chkE hf
    rcases m_ifE hf with ⟨c2, hf⟩ | ⟨c2, hf⟩
    · skip
      replace c2 := ti_leP (a := r2) (b := (0 : Int32)) c2 rfl (show (0 : Int32).toInt = 0 from rfl)
      have rn : r = [] := List.eq_nil_of_length_eq_zero (by omega)
      exact jr_22 hcb hT hN hch k2 h2 (by omega) (by rw [if_pos rn]; rfl) hr hf
    · skip
      replace c2 := ti_leN (a := r2) (b := (0 : Int32)) c2 rfl (show (0 : Int32).toInt = 0 from rfl)
      have rn : r ≠ [] := fun e => by
        rw [e] at q2
        have : (([] : List Int).length : Int) = 0 := rfl
        omega
      exact jr_22 hcb hT hN hch k2 h2 (by omega) (by rw [if_neg rn]; rfl) hr hf
  · skip
    replace c1 := ti_ltN (a := x2) (b := x3) c1 rfl rfl
    obtain ⟨-, hf⟩ := m_chkE hf
    cases hf
    try dsimp only
    have e0 : (x3.toInt - x2.toInt).toNat = 0 := by omega
    refine Or.inl ⟨rfl, ?_, hT, fr_0, ?_⟩
    · rw [e0]; unfold jnR; rw [if_pos rfl]; exact hr
    · rw [e0]; unfold jnR; rw [if_pos rfl]; exact hN
end JRS
section RKC
variable {S0 S S' : ZS} {x1 : Nat} {ch : Int → Int} {N p q : Int} {r : List Int} {o : Int32 × ZS} {x2 x3 x4 x5 : Int32}
/-- one remark, behind the look for its end -/
theorem rr_91 (h : LW S ch N p) (hN : NDo S x1 r) (hr : (r.length : Int) ≤ 200) (h2 : x2.toInt = p) (h5 : x5.toInt = q) (hpN : p < N) (hq : RM1 ch N p q) (hf : d_X2_readRemark_91 23 x1 x2 x5 S = some o) : (o.1.toInt = 1 ∧ ((jnR r ch (p + 1) (q - (p + 1)).toNat).length : Int) ≤ 200 ∧ LW o.2 ch N (if N < q + 1 then N else q + 1) ∧ FR (fun a => a = 23 ∨ a = x1 + 1) S o.2 ∧ NDo o.2 x1 (jnR r ch (p + 1) (q - (p + 1)).toNat)) ∨ (o.1.toInt = 0 ∧ 200 < ((jnR r ch (p + 1) (q - (p + 1)).toNat).length : Int) ∧ (∃ p', LW o.2 ch N p') ∧ FR (fun a => a = 23 ∨ a = x1 + 1) S o.2) := by
  obtain ⟨hT, ⟨k23, p2, k2⟩, ⟨hc, hN1, hn⟩, hcb, h4, hp⟩ := id h
  have hqp : p + 1 ≤ q ∧ q ≤ N := by rcases hq with g | g <;> omega
  have k6 := hN.1.2.2.1
  have hrc := hN.1.2.2.2
  have n2 := rcz_2 hrc
  have n23 : (23 : Nat) ≠ x1 + 1 := fun e => by rw [← e, k23] at k6; exact absurd k6 (by decide)
  unfold d_X2_readRemark_91 at hf
  obtain ⟨-, hf⟩ := m_chkE hf
  replace hf := m_calY hf p2
  obtain ⟨v2, e_v2, hf⟩ := m_bndE hf
  have t_v2 : v2.toInt = x2.toInt + 1 := ti_add e_v2 rfl (show (1 : Int32).toInt = 1 from rfl) (by omega) (by omega)
  obtain ⟨-, hf⟩ := m_chkE hf
  obtain ⟨⟨r4, S5⟩, h_r4, hf⟩ := m_cal2E hf
  dsimp only at hf
  have g4 := p_join (x2 := v2) (x3 := x5) hcb hT hN hc k2 (by omega) (by omega) hr h_r4
  rw [show v2.toInt = p + 1 by omega, h5] at g4
  dsimp only at g4
  rcases m_ifE hf with ⟨c1, hf⟩ | ⟨c1, hf⟩
  · skip
    replace c1 := ti_eqP (a := r4) (b := (0 : Int32)) c1 rfl (show (0 : Int32).toInt = 0 from rfl)
    obtain ⟨e5, g5⟩ : S5 = S ∧ 200 < ((jnR r ch (p + 1) (q - (p + 1)).toNat).length : Int) := by
      rcases g4 with ⟨a, -⟩ | ⟨-, a, b⟩
      · omega
      · exact ⟨a, b⟩
    rw [e5] at hf
    obtain ⟨-, hf⟩ := m_chkE hf
    obtain ⟨⟨r13, S13c⟩, h_r13, hf⟩ := m_calE hf
    dsimp only at hf
    obtain ⟨b1, b2, b3⟩ := lw_no (x1 := 8) (x2 := x2) h (by decide) (by omega) h_r13
    dsimp only at b1 b2 b3
    obtain ⟨-, hf⟩ := m_chkE hf
    obtain ⟨-, hf⟩ := m_chkE hf
    cases hf
    try dsimp only
    exact Or.inr ⟨b1, g5, ⟨p, b2⟩, fr_m b3 (fun a _ e => Or.inl e)⟩
  · skip
    replace c1 := ti_eqN (a := r4) (b := (0 : Int32)) c1 rfl (show (0 : Int32).toInt = 0 from rfl)
    obtain ⟨g51, T5, F5, N5⟩ : ((jnR r ch (p + 1) (q - (p + 1)).toNat).length : Int) ≤ 200 ∧ ZT S5 ∧ FR (fun a => a = x1 + 1) S S5 ∧ NDo S5 x1 (jnR r ch (p + 1) (q - (p + 1)).toNat) := by
      rcases g4 with ⟨-, a⟩ | ⟨a, -⟩
      · exact a
      · omega
    have e23 := fr_e F5 (show zK S 23 < 18 by rw [k23]; decide) n23
    have L5 : LW S5 ch N p := lw_fr h T5 F5 (fun e => n2 e.symm) (by rw [e23.2.2.1]; exact h4) hp
    obtain ⟨-, ⟨-, p25, k25⟩, ⟨-, hN5, -⟩, -⟩ := id L5
    obtain ⟨v8, e_v8, hf⟩ := m_bndE hf
    have t_v8 : v8.toInt = x5.toInt + 1 := ti_add e_v8 rfl (show (1 : Int32).toInt = 1 from rfl) (by omega) (by omega)
    obtain ⟨-, hf⟩ := m_chkE hf
    replace hf := m_calY hf p25
    obtain ⟨-, hf⟩ := m_chkE hf
    obtain ⟨r10, h_r10, hf⟩ := m_calR hf (fun _ h => ro_X6_size h)
    dsimp only at hf
    have p_r10 := pc_X6_size h_r10
    dsimp only at p_r10
    have q10 : r10.toInt = N := by rw [p_r10]; exact hN5
    obtain ⟨-, hf⟩ := m_chkE hf
    obtain ⟨v11, e_v11, hf⟩ := m_bndE hf
    have t11 : v11.toInt = if N < q + 1 then N else q + 1 := by
      rw [e_v11]
      by_cases c : N < q + 1
      · rw [if_pos (Int32.lt_iff_toInt_lt.2 (by omega)), if_pos c]; exact q10
      · rw [if_neg (fun g => by have := Int32.lt_iff_toInt_lt.1 g; omega), if_neg c]; omega
    obtain ⟨-, hf⟩ := m_chkE hf
    obtain ⟨S12, e_S12, hf⟩ := m_bndE hf
    obtain ⟨-, hf⟩ := m_chkE hf
    cases hf
    try dsimp only
    have L12 : LW S12 ch N (if N < q + 1 then N else q + 1) := lw_at L5 e_S12 t11 (by split <;> omega)
    have F12 : FR (fun a => a = 23 ∨ a = x1 + 1) S5 S12 := fr_m (fr_I e_S12) (fun a _ e => Or.inl e)
    refine Or.inl ⟨rfl, g51, L12, fr_t (fr_m F5 (fun a _ e => Or.inr e)) F12, ndo_fr N5 F12 (eqc_rl (fr_e (fr_I e_S12) (by rw [N5.1.2.2.1]; decide) (fun e => n23 e.symm)) N5.1.2.2.1 N5.2)⟩
end RKC
end
section
section RKD
variable {S0 S S' : ZS} {x1 : Nat} {ch : Int → Int} {N p q : Int} {r : List Int} {o : Int32 × ZS} {x2 x3 x4 x5 t0 : Int32}
/-- how one remark ends, by the class -/
noncomputable def RRo (S : ZS) (x1 : Nat) (ch : Int → Int) (N p : Int) (r : List Int) (o : Int32 × ZS) : Prop := (∃ q, o.1.toInt = 1 ∧ RM1 ch N p q ∧ ((jnR r ch (p + 1) (q - (p + 1)).toNat).length : Int) ≤ 200 ∧ LW o.2 ch N (if N < q + 1 then N else q + 1) ∧ FR (fun a => a = 23 ∨ a = x1 + 1) S o.2 ∧ NDo o.2 x1 (jnR r ch (p + 1) (q - (p + 1)).toNat)) ∨ (o.1.toInt = 0 ∧ ((∀ q, ¬ RM1 ch N p q) ∨ ∃ q, RM1 ch N p q ∧ 200 < ((jnR r ch (p + 1) (q - (p + 1)).toNat).length : Int)) ∧ (∃ p', LW o.2 ch N p') ∧ FR (fun a => a = 23 ∨ a = x1 + 1) S o.2)
theorem rr_ok (h : LW S ch N p) (hN : NDo S x1 r) (hr : (r.length : Int) ≤ 200) (h2 : x2.toInt = p) (h5 : x5.toInt = q) (hpN : p < N) (hq : RM1 ch N p q) (hf : d_X2_readRemark_91 23 x1 x2 x5 S = some o) : RRo S x1 ch N p r o := by
  rcases rr_91 h hN hr h2 h5 hpN hq hf with ⟨a1, a2, a3, a4, a5⟩ | ⟨a1, a2, a3⟩
  · exact Or.inl ⟨q, a1, hq, a2, a3, a4, a5⟩
  · exact Or.inr ⟨a1, Or.inr ⟨q, hq, a2⟩, a3⟩
theorem rr_83 (h : LW S ch N p) (h4 : 0 ≤ x4.toInt ∧ x4.toInt ≤ 100000) (hn : ∀ q, ¬ RM1 ch N p q) (hf : d_X2_readRemark_83 23 x4 S = some o) : RRo S x1 ch N p r o := by
  unfold d_X2_readRemark_83 at hf
  obtain ⟨-, hf⟩ := m_chkE hf
  obtain ⟨⟨r1, S1c⟩, h_r1, hf⟩ := m_calE hf
  dsimp only at hf
  obtain ⟨b1, b2, b3⟩ := lw_no (x1 := 1) (x2 := x4) h (by decide) (by omega) h_r1
  dsimp only at b1 b2 b3
  obtain ⟨-, hf⟩ := m_chkE hf
  obtain ⟨-, hf⟩ := m_chkE hf
  cases hf
  try dsimp only
  exact Or.inr ⟨b1, Or.inl hn, ⟨p, b2⟩, fr_m b3 (fun a _ e => Or.inl e)⟩
theorem rr_55 (h : LW S ch N p) (hN : NDo S x1 r) (hr : (r.length : Int) ≤ 200) (h2 : x2.toInt = p) (hpN : p < N) (h3 : (x3.toInt = 1 ∧ ch p = 123) ∨ (x3.toInt = 0 ∧ ch p = 59)) (h4 : IX ch N 125 p x4.toInt) (h5 : (x3.toInt = 1 → t0 = x4) ∧ (x3.toInt = 0 → IX ch N 10 p t0.toInt)) (hf : d_X2_readRemark_55 23 x1 x2 x3 x4 t0 S = some o) : RRo S x1 ch N p r o := by
  obtain ⟨hT, ⟨k23, p2, k2⟩, ⟨hc, hN1, hn⟩, hcb, h44, hp⟩ := id h
  obtain ⟨i1, i2, i3, i4⟩ := h4
  unfold d_X2_readRemark_55 at hf
  rcases m_ifE hf with ⟨c1, hf⟩ | ⟨c1, hf⟩
  · skip
    replace c1 := ti_eqP (a := x3) (b := (0 : Int32)) c1 rfl (show (0 : Int32).toInt = 0 from rfl)
    have e59 : ch p = 59 := by omega
    obtain ⟨j1, j2, j3, j4⟩ := h5.2 (by omega)
    have t0p : p < t0.toInt := by
      rcases j3 with j | j
      · omega
      · by_cases e : t0.toInt = p
        · rw [e] at j; omega
        · omega
    rcases m_ifE hf with ⟨c2, hf⟩ | ⟨c2, hf⟩
    · skip
      replace c2 := ti_leP (a := t0) (b := x4) c2 rfl rfl
      refine rr_ok (q := t0.toInt) h hN hr h2 rfl hpN (Or.inr ⟨e59, by omega, by omega, ?_, fun j j0 j1 => ⟨j2 j (by omega) j1, i2 j (by omega) (by omega)⟩⟩) hf
      rcases j3 with j | j
      · exact Or.inl (by omega)
      · exact Or.inr j
    · skip
      replace c2 := ti_leN (a := t0) (b := x4) c2 rfl rfl
      refine rr_83 h (by omega) (fun q hq => ?_) hf
      have c125 : ch x4.toInt = 125 := by
        rcases i3 with i | i
        · omega
        · exact i
      rcases hq with g | ⟨g1, g2, g3, g4, g5⟩
      · omega
      · have x4p : p + 1 ≤ x4.toInt := by
          by_cases e : x4.toInt = p
          · rw [e] at c125; omega
          · omega
        by_cases l : x4.toInt < q
        · exact (g5 x4.toInt x4p l).2 c125
        · rcases g4 with g4 | g4
          · omega
          · by_cases e : q = x4.toInt
            · rw [e] at g4; omega
            · exact j2 q (by omega) (by omega) g4
  · skip
    replace c1 := ti_eqN (a := x3) (b := (0 : Int32)) c1 rfl (show (0 : Int32).toInt = 0 from rfl)
    have e123 : ch p = 123 := by omega
    have et := h5.1 (by omega)
    obtain ⟨-, hf⟩ := m_chkE hf
    replace hf := m_calY hf p2
    obtain ⟨-, hf⟩ := m_chkE hf
    obtain ⟨r2, h_r2, hf⟩ := m_calR hf (fun _ h => ro_X6_size h)
    dsimp only at hf
    have p_r2 := pc_X6_size h_r2
    dsimp only at p_r2
    have q2 : r2.toInt = N := by rw [p_r2]; exact hN1
    obtain ⟨-, hf⟩ := m_chkE hf
    rcases m_ifE hf with ⟨c3, hf⟩ | ⟨c3, hf⟩
    · skip
      replace c3 := ti_eqP (a := x4) (b := r2) c3 rfl rfl
      refine rr_83 h (by omega) (fun q hq => ?_) hf
      rcases hq with ⟨g1, g2, g3, g4, g5⟩ | g
      · exact i2 q (by omega) (by omega) g4
      · omega
    · skip
      replace c3 := ti_eqN (a := x4) (b := r2) c3 rfl rfl
      rw [et] at hf
      have c125 : ch x4.toInt = 125 := by
        rcases i3 with i | i
        · omega
        · exact i
      have x4p : p + 1 ≤ x4.toInt := by
        by_cases e : x4.toInt = p
        · rw [e] at c125; omega
        · omega
      exact rr_ok (q := x4.toInt) h hN hr h2 rfl hpN (Or.inl ⟨e123, x4p, by omega, c125, fun j j0 j1 => i2 j (by omega) j1⟩) hf
theorem rr_23 (h : LW S ch N p) (hN : NDo S x1 r) (hr : (r.length : Int) ≤ 200) (h2 : x2.toInt = p) (hpN : p < N) (h3 : (t0.toInt = 1 ∧ ch p = 123) ∨ (t0.toInt = 0 ∧ ch p = 59)) (hf : d_X2_readRemark_23 23 x1 x2 t0 S = some o) : RRo S x1 ch N p r o := by
  obtain ⟨hT, ⟨k23, p2, k2⟩, ⟨hc, hN1, hn⟩, hcb, h44, hp⟩ := id h
  have z125 : (125 : Int32).toInt = 125 := rfl
  have z10 : (10 : Int32).toInt = 10 := rfl
  unfold d_X2_readRemark_23 at hf
  obtain ⟨-, hf⟩ := m_chkE hf
  replace hf := m_calY hf p2
  obtain ⟨-, hf⟩ := m_chkE hf
  obtain ⟨r2, h_r2, hf⟩ := m_calR hf (fun _ h => ro_X6_indexOf h)
  dsimp only at hf
  obtain ⟨-, q2⟩ := p_ixOf (by omega) (by omega) h_r2
  dsimp only at q2
  rw [hc, hN1, z125, h2] at q2
  obtain ⟨-, hf⟩ := m_chkE hf
  rcases m_ifE hf with ⟨c1, hf⟩ | ⟨c1, hf⟩
  · skip
    replace c1 := ti_eqP (a := t0) (b := (0 : Int32)) c1 rfl (show (0 : Int32).toInt = 0 from rfl)
    obtain ⟨-, hf⟩ := m_chkE hf
    replace hf := m_calY hf p2
    obtain ⟨-, hf⟩ := m_chkE hf
    obtain ⟨r4, h_r4, hf⟩ := m_calR hf (fun _ h => ro_X6_indexOf h)
    dsimp only at hf
    obtain ⟨-, q4⟩ := p_ixOf (by omega) (by omega) h_r4
    dsimp only at q4
    rw [hc, hN1, z10, h2] at q4
    obtain ⟨-, hf⟩ := m_chkE hf
    exact rr_55 h hN hr h2 hpN h3 q2 ⟨fun e => by omega, fun _ => q4⟩ hf
  · skip
    replace c1 := ti_eqN (a := t0) (b := (0 : Int32)) c1 rfl (show (0 : Int32).toInt = 0 from rfl)
    exact rr_55 h hN hr h2 hpN h3 q2 ⟨fun _ => rfl, fun e => by omega⟩ hf
theorem p_readRemark (h : LW S ch N p) (hN : NDo S x1 r) (hr : (r.length : Int) ≤ 200) (hc0 : ch p = 123 ∨ ch p = 59) (hf : d_X2_readRemark 23 x1 S = some o) : RRo S x1 ch N p r o := by
  have hf : d_X2_readRemark_0 23 x1 S = some o := hf
  obtain ⟨hT, ⟨k23, p2, k2⟩, ⟨hc, hN1, hn⟩, hcb, h44, hp⟩ := id h
  have hpN : p < N := by
    by_cases e : p < N
    · exact e
    · have := lw_out h (show N ≤ p by omega); omega
  unfold d_X2_readRemark_0 at hf
  obtain ⟨-, hf⟩ := m_chkE hf
  obtain ⟨-, hf⟩ := m_chkE hf
  replace hf := m_calY hf p2
  obtain ⟨-, hf⟩ := m_chkE hf
  obtain ⟨r2, h_r2, hf⟩ := m_calR hf (fun _ h => ro_X6_at h)
  dsimp only at hf
  have p_r2 := pc_X6_at h_r2
  dsimp only at p_r2
  rw [hc, h44] at p_r2
  obtain ⟨-, hf⟩ := m_chkE hf
  rcases m_ifE hf with ⟨c1, hf⟩ | ⟨c1, hf⟩
  · skip
    replace c1 := ti_eqP (a := r2) (b := (123 : Int32)) c1 rfl (show (123 : Int32).toInt = 123 from rfl)
    exact rr_23 (t0 := 1) h hN hr h44 hpN (Or.inl ⟨rfl, by omega⟩) hf
  · skip
    replace c1 := ti_eqN (a := r2) (b := (123 : Int32)) c1 rfl (show (123 : Int32).toInt = 123 from rfl)
    exact rr_23 (t0 := 0) h hN hr h44 hpN (Or.inr ⟨rfl, by omega⟩) hf
theorem blk_s {ch : Int → Int} {a b : Int} (h : ch a = 32 ∨ ch a = 10) (g : BL ch (a + 1) b) : blk ch a = b := blk_e (bl_s h g)
/-- how the remarks end, by the class -/
noncomputable def RKo (S : ZS) (x1 : Nat) (ch : Int → Int) (N : Int) (z : Option (Int × List Int)) (o : Int32 × ZS) : Prop := (∃ e w, z = some (e, w) ∧ o.1.toInt = 1 ∧ ((w.length : Int) ≤ 200 ∧ e ≤ N) ∧ LW o.2 ch N e ∧ FR (fun a => a = 23 ∨ a = x1 + 1) S o.2 ∧ NDo o.2 x1 w) ∨ (z = none ∧ o.1.toInt = 0 ∧ (∃ p', LW o.2 ch N p') ∧ FR (fun a => a = 23 ∨ a = x1 + 1) S o.2)
theorem rk_8 : ∀ (n : Nat) (x2 x3 : Int32) (S : ZS) (p : Int) (r : List Int) (k : Nat), x2.toInt = 1 → (0 ≤ x3.toInt ∧ x3.toInt ≤ p) → N < p + (k : Int) → 1 ≤ k → LW S ch N p → FR (fun a => a = 23 ∨ a = x1 + 1) S0 S → NDo S x1 r → (r.length : Int) ≤ 200 → p ≤ N → d_X2_readRemarks_8 n 23 x1 x2 x3 S = some o → RKo S0 x1 ch N (rmkP ch N k p r) o := by
  intro n
  induction n with
  | zero => intro x2 x3 S p r k _ _ _ _ _ _ _ _ _ hf; cases hf
  | succ n ih =>
    intro x2 x3 S p r k h2 h3 hk hk1 h hF hN hr hpN hf
    have hf : d_X2_readRemarks_8s (d_X2_readRemarks_8 n) 23 x1 x2 x3 S = some o := hf
    obtain ⟨k2', rfl⟩ : ∃ k2, k = k2 + 1 := ⟨k - 1, by omega⟩
    obtain ⟨hT, ⟨k23, p2, k2⟩, ⟨hc, hN1, hn⟩, hcb, h44, hp⟩ := id h
    have stop : ¬ (ch p = 123 ∨ ch p = 59) → d_X2_readRemarks_67 x2 S = some o → RKo S0 x1 ch N (rmkP ch N (k2' + 1) p r) o := by
      intro hs hf
      unfold d_X2_readRemarks_67 at hf
      obtain ⟨-, hf⟩ := m_chkE hf
      cases hf
      exact Or.inl ⟨p, r, rkP_0 hs, h2, ⟨hr, hpN⟩, h, hF, hN⟩
    have more : (ch p = 123 ∨ ch p = 59) → d_X2_readRemarks_51 (d_X2_readRemarks_8 n) 23 x1 x3 S = some o → RKo S0 x1 ch N (rmkP ch N (k2' + 1) p r) o := by
      intro hs hf
      unfold d_X2_readRemarks_51 at hf
      obtain ⟨-, hf⟩ := m_chkE hf
      obtain ⟨⟨r2, S3⟩, h_r2, hf⟩ := m_cal2E hf
      dsimp only at hf
      have g2 := p_readRemark h hN hr hs h_r2
      have pN : p < N := by
        by_cases e : p < N
        · exact e
        · have := lw_out h (show N ≤ p by omega); omega
      obtain ⟨-, hf⟩ := m_chkE hf
      obtain ⟨⟨r6, S6c⟩, h_r6, hf⟩ := m_calE hf
      dsimp only at hf
      obtain ⟨-, hf⟩ := m_chkE hf
      obtain ⟨v7, e_v7, hf⟩ := m_bndE hf
      have t_v7 : v7.toInt = x3.toInt + 1 := ti_add e_v7 rfl (show (1 : Int32).toInt = 1 from rfl) (by omega) (by omega)
      rcases g2 with ⟨q, b1, b2, b3, b4, b5, b6⟩ | ⟨b1, b2, ⟨p', b3⟩, b4⟩
      · dsimp only at b1 b4 b5 b6
        have hq : p + 1 ≤ q ∧ q ≤ N := by rcases b2 with g | g <;> omega
        obtain ⟨d1, d2, d3, d4⟩ := lw_bl b4 h_r6
        dsimp only at d2 d3
        have eb : blk ch (if N < q + 1 then N else q + 1) = blk ch (if ch p = 123 then q + 1 else q) := by
          rcases b2 with ⟨g1, g2, g3, g4, g5⟩ | ⟨g1, g2, g3, g4, g5⟩
          · rw [if_neg (by omega), if_pos g1]
          · rw [if_neg (show ¬ ch p = 123 by omega)]
            by_cases c : q = N
            · rw [if_pos (by omega), c]
            · rw [if_neg (by omega)] at d1 ⊢
              exact (blk_s (Or.inr (by omega)) d1).symm
        rw [rkP_s b2 b3, ← eb]
        have hz : p + 1 ≤ (if N < q + 1 then N else q + 1) ∧ (if N < q + 1 then N else q + 1) ≤ N := by
          split <;> omega
        have bge : p + 1 ≤ blk ch (if N < q + 1 then N else q + 1) := by
          have := d1.1
          omega
        refine ih r2 v7 S6c _ _ k2' b1 (by omega) (by omega) (by omega) d2 (fr_t hF (fr_t b5 (fr_m d3 (fun a _ e => Or.inl e)))) ?_ b3 ?_ hf
        · have n23 : (23 : Nat) ≠ x1 + 1 := fun e => by
            have k6 := hN.1.2.2.1
            rw [← e, k23] at k6; exact absurd k6 (by decide)
          exact ndo_fr b6 d3 (eqc_rl (fr_e d3 (by rw [b6.1.2.2.1]; decide) (fun e => n23 e.symm)) b6.1.2.2.1 b6.2)
        · omega
      · dsimp only at b1 b3 b4
        obtain ⟨-, d2, d3, -⟩ := lw_bl b3 h_r6
        dsimp only at d2 d3
        have F9 := fr_t hF (fr_t b4 (fr_m d3 (fun a _ e => Or.inl e)))
        have en : rmkP ch N (k2' + 1) p r = none := by
          rcases b2 with b2 | ⟨q, b2, b3⟩
          · exact rkP_n hs b2
          · exact rkP_l b2 b3
        rw [en]
        refine Or.inr ⟨rfl, ?_⟩
        cases n with
        | zero => cases hf
        | succ n =>
          have hf : d_X2_readRemarks_8s (d_X2_readRemarks_8 n) 23 x1 r2 v7 S6c = some o := hf
          unfold d_X2_readRemarks_8s d_X2_readRemarks_67 at hf
          rcases m_ifE hf with ⟨-, hf⟩ | ⟨-, hf⟩
          · obtain ⟨-, hf⟩ := m_chkE hf
            cases hf
            exact ⟨b1, ⟨_, d2⟩, F9⟩
          · rcases m_ifE hf with ⟨-, hf⟩ | ⟨cz, hf⟩
            · obtain ⟨-, hf⟩ := m_chkE hf
              cases hf
              exact ⟨b1, ⟨_, d2⟩, F9⟩
            · exact absurd (Int32.toInt_inj.1 b1) cz
    unfold d_X2_readRemarks_8s at hf
    rcases m_ifE hf with ⟨c1, hf⟩ | ⟨c1, hf⟩
    · skip
      replace c1 := ti_leP (a := (2000 : Int32)) (b := x3) c1 (show (2000 : Int32).toInt = 2000 from rfl) rfl
      refine stop ?_ hf
      have := lw_out h (show N ≤ p by omega)
      omega
    · skip
      replace c1 := ti_leN (a := (2000 : Int32)) (b := x3) c1 (show (2000 : Int32).toInt = 2000 from rfl) rfl
      rcases m_ifE hf with ⟨c2, hf⟩ | ⟨c2, hf⟩
      · skip
        replace c2 := ti_eqP (a := x2) (b := (0 : Int32)) c2 rfl (show (0 : Int32).toInt = 0 from rfl)
        omega
      · skip
        replace c2 := ti_eqN (a := x2) (b := (0 : Int32)) c2 rfl (show (0 : Int32).toInt = 0 from rfl)
        obtain ⟨-, hf⟩ := m_chkE hf
        replace hf := m_calY hf p2
        obtain ⟨-, hf⟩ := m_chkE hf
        obtain ⟨-, hf⟩ := m_chkE hf
        obtain ⟨r2, h_r2, hf⟩ := m_calR hf (fun _ h => ro_X6_at h)
        dsimp only at hf
        have p_r2 := pc_X6_at h_r2
        dsimp only at p_r2
        rw [hc, h44] at p_r2
        obtain ⟨-, hf⟩ := m_chkE hf
        rcases m_ifE hf with ⟨c3, hf⟩ | ⟨c3, hf⟩
        · skip
          replace c3 := ti_eqP (a := r2) (b := (123 : Int32)) c3 rfl (show (123 : Int32).toInt = 123 from rfl)
          exact more (Or.inl (by omega)) hf
        · skip
          replace c3 := ti_eqN (a := r2) (b := (123 : Int32)) c3 rfl (show (123 : Int32).toInt = 123 from rfl)
          obtain ⟨-, hf⟩ := m_chkE hf
          replace hf := m_calY hf p2
          obtain ⟨-, hf⟩ := m_chkE hf
          obtain ⟨-, hf⟩ := m_chkE hf
          obtain ⟨r4, h_r4, hf⟩ := m_calR hf (fun _ h => ro_X6_at h)
          dsimp only at hf
          have p_r4 := pc_X6_at h_r4
          dsimp only at p_r4
          rw [hc, h44] at p_r4
          obtain ⟨-, hf⟩ := m_chkE hf
          rcases m_ifE hf with ⟨c4, hf⟩ | ⟨c4, hf⟩
          · skip
            replace c4 := ti_eqP (a := r4) (b := (59 : Int32)) c4 rfl (show (59 : Int32).toInt = 59 from rfl)
            exact more (Or.inr (by omega)) hf
          · skip
            replace c4 := ti_eqN (a := r4) (b := (59 : Int32)) c4 rfl (show (59 : Int32).toInt = 59 from rfl)
            exact stop (by omega) hf
/-- the class reads remarks -/
theorem p_readRemarks (h : LW S ch N p) (hpN : p ≤ N) (hN : NDo S x1 r) (hr : (r.length : Int) ≤ 200) (hf : d_X2_readRemarks 23 x1 S = some o) : RKo S x1 ch N (rmkP ch N 2001 (blk ch p) r) o := by
  have hf : d_X2_readRemarks_0 23 x1 S = some o := hf
  have n23 : (23 : Nat) ≠ x1 + 1 := fun e => by
    have k6 := hN.1.2.2.1
    rw [← e, h.2.1.1] at k6; exact absurd k6 (by decide)
  have hn := h.2.2.1.2.2
  unfold d_X2_readRemarks_0 at hf
  obtain ⟨-, hf⟩ := m_chkE hf
  obtain ⟨⟨r1, S1c⟩, h_r1, hf⟩ := m_calE hf
  dsimp only at hf
  obtain ⟨d1, d2, d3, d4⟩ := lw_bl h h_r1
  dsimp only at d2 d3
  have d0 := d2.2.2.2.2.2
  obtain ⟨-, hf⟩ := m_chkE hf
  exact rk_8 (S0 := S) mFuel 1 0 S1c (blk ch p) r 2001 rfl (by have z : (0 : Int32).toInt = 0 := rfl; omega) (by omega) (by decide) d2 (fr_m d3 (fun a _ e => Or.inl e)) (ndo_fr hN d3 (eqc_rl (fr_e d3 (by rw [hN.1.2.2.1]; decide) (fun e => n23 e.symm)) hN.1.2.2.1 hN.2)) hr (by omega) hf
end RKD
end
section
theorem wA_l {u v : List Int} {i : Int} (h : i < (u.length : Int)) : wA (u ++ v) i = wA u i := by
  by_cases c : i < 0
  · rw [wA_out (Or.inl c), wA_out (Or.inl c)]
  · obtain ⟨n, hn⟩ : ∃ n : Nat, i = (n : Int) := ⟨i.toNat, by omega⟩
    have c1 : n < u.length := by omega
    have c2 : n < (u ++ v).length := by rw [List.length_append]; omega
    rw [hn, wA_in c2, wA_in c1, List.getElem_append_left c1]
theorem wA_r {u : List Int} : ∀ {v : List Int} {i : Int}, (u.length : Int) ≤ i → wA (u ++ v) i = wA v (i - (u.length : Int)) := by
  intro v i h
  obtain ⟨n, hn⟩ : ∃ n : Nat, i = (u.length : Int) + (n : Int) := ⟨(i - (u.length : Int)).toNat, by omega⟩
  rw [show i - (u.length : Int) = (n : Int) by omega]
  by_cases c : n < v.length
  · have c2 : u.length + n < (u ++ v).length := by rw [List.length_append]; omega
    rw [show i = ((u.length + n : Nat) : Int) by omega, wA_in c2, wA_in c, List.getElem_append_right (by omega)]
    simp
  · rw [wA_out (w := u ++ v) (Or.inr (by rw [List.length_append]; omega)), wA_out (w := v) (Or.inr (by omega))]
theorem rmL_at {ch : Int → Int} {a : Int} {i : Nat} : ∀ {k : Nat}, i < k → wA (rmL ch a k) (i : Int) = rmC (ch (a + (i : Int))) := by
  intro k
  induction k with
  | zero => intro h; omega
  | succ k ih =>
    intro h
    show wA (rmL ch a k ++ [rmC (ch (a + (k : Int)))]) (i : Int) = _
    rw [wA_app, rmL_l]
    by_cases e : i = k
    · rw [if_pos (by omega), e]
    · rw [if_neg (by omega)]; exact ih (by omega)
/-- the reference at its text -/
noncomputable def RV (I : Nat → Int32) (A : Nat → Nat → Int32) (ch : Int → Int) (N p : Int) : Prop := (TJ I ∧ TK A) ∧ (txR I A = ch ∧ (I 1).toInt = N ∧ (0 ≤ N ∧ N ≤ 2000)) ∧ (∀ i, 0 ≤ ch i ∧ ch i ≤ 127) ∧ (I 37).toInt = p ∧ 0 ≤ p ∧ p ≤ 2010
/-- the remark of the reference's node k -/
noncomputable def NRr (A : Nat → Nat → Int32) (k : Nat) (r : List Int) : Prop := (A 14 k).toInt = (r.length : Int) ∧ ∀ i : Nat, i < r.length → (A 15 (200 * k + i)).toInt = wA r (i : Int)
/-- only the remark of node k changes -/
noncomputable def RFm (I I' : Nat → Int32) (A A' : Nat → Nat → Int32) (k : Nat) : Prop := (∀ j, j ≠ 37 → I' j = I j) ∧ (∀ j, j ≠ 14 → j ≠ 15 → A' j = A j) ∧ (∀ i, i ≠ k → A' 14 i = A 14 i) ∧ ∀ i, (i < 200 * k ∨ 200 * k + 200 ≤ i) → A' 15 i = A 15 i
section RVS
variable {I I1 I2 I' : Nat → Int32} {A A1 A2 A' : Nat → Nat → Int32} {ch : Int → Int} {N p q : Int} {k : Nat} {r u : List Int} {o : Int32 × MS} {x1 x2 x3 x4 x5 x6 x7 x8 x9 x10 t0 : Int32}
theorem rfm_0 : RFm I I A A k := ⟨fun _ _ => rfl, fun _ _ _ => rfl, fun _ _ => rfl, fun _ _ => rfl⟩
theorem rfm_t (h : RFm I I1 A A1 k) (g : RFm I1 I2 A1 A2 k) : RFm I I2 A A2 k := ⟨fun j hj => (g.1 j hj).trans (h.1 j hj), fun j a b => (g.2.1 j a b).trans (h.2.1 j a b), fun i hi => (g.2.2.1 i hi).trans (h.2.2.1 i hi), fun i hi => (g.2.2.2 i hi).trans (h.2.2.2 i hi)⟩
theorem rfm_I {v : Int32} (e : I' = upd I 37 v) : RFm I I' A A k := ⟨fun j hj => by rw [e, upd_ne hj], fun _ _ _ => rfl, fun _ _ => rfl, fun _ _ => rfl⟩
theorem rv_at {v : Int32} (h : RV I A ch N p) (e : I' = upd I 37 v) (hv : v.toInt = q) (hq : 0 ≤ q ∧ q ≤ 2010) : RV I' A ch N q := by
  obtain ⟨⟨hI, hA⟩, ⟨hc, hN, hn⟩, hcb, -⟩ := h
  subst e
  refine ⟨⟨tj_u hI (show (0 : Int) ≤ v.toInt by omega) (show v.toInt ≤ (2100 : Int) by omega), hA⟩, ⟨?_, by rw [upd_ne (by decide)]; exact hN, hn⟩, hcb, by rw [upd_self]; exact hv, hq⟩
  rw [← hc]
  exact tx_fr (upd_ne (by decide)) rfl
theorem rv_A (h : RV I A ch N p) (hA : TK A') (h2 : A' 2 = A 2) : RV I A' ch N p := by
  obtain ⟨⟨hI, -⟩, ⟨hc, hN, hn⟩, hcb, h4⟩ := h
  exact ⟨⟨hI, hA⟩, ⟨by rw [tx_fr rfl h2]; exact hc, hN, hn⟩, hcb, h4⟩
theorem rv_lk (h : RV I A ch N p) (hf : f_look I A = some o) : o.1.toInt = ch p := by
  obtain ⟨-, ⟨hc, -⟩, -, h37, hp⟩ := h
  have g1 := pc_look hf (by omega)
  rw [hc, h37] at g1
  exact g1
theorem rv_bl (h : RV I A ch N p) (hf : f_blanks I A = some o) : BL ch p (blk ch p) ∧ RV o.2.1 o.2.2 ch N (blk ch p) ∧ o.2.2 = A ∧ (∀ j, j ≠ 37 → o.2.1 j = I j) ∧ (blk ch p ≤ p ∨ blk ch p ≤ N) := by
  obtain ⟨-, ⟨hc, hn, hn2⟩, -, h37, hp⟩ := id h
  obtain ⟨v, g1, g2, g3⟩ := p_blanks hc (by omega) (by omega) hf
  rw [h37] at g1 g3
  rw [hn] at g3
  have e := blk_e g1
  have := g1.1
  rw [e, g2]
  exact ⟨g1, rv_at h rfl rfl (by omega), rfl, fun j hj => upd_ne hj, g3⟩
theorem rv_out (h : RV I A ch N p) {i : Int} (hi : N ≤ i) : ch i = 0 := by
  obtain ⟨-, ⟨hc, hN, -⟩, -⟩ := h
  rw [← hc]; exact tx_out (by omega)
theorem rv_tx {x v : Int32} (h : RV I A ch N p) (e : v = A 2 x.toNatClampNeg) (h1 : 0 ≤ x.toInt) (h2 : x.toInt < N) : v.toInt = ch x.toInt := by
  obtain ⟨-, ⟨hc, hN, -⟩, -⟩ := h
  rw [← hc]; exact tx_at e h1 (by omega)
theorem cl_n {x : Int32} {n : Nat} (h : x.toInt = (n : Int)) : x.toNatClampNeg = n := by
  have : x.toNatClampNeg = x.toInt.toNat := rfl
  rw [this, h]; rfl
/-- what comes behind a remark's signs -/
theorem rm_344 {self4 : Int32 → Int32 → (Nat → Int32) → (Nat → Nat → Int32) → Option (Int32 × MS)} (h : RV I A ch N p) (ht : t0.toInt = q) (hq : 0 ≤ q ∧ q ≤ N) (hf : f_readRemarks_344 self4 x1 x2 t0 I A = some o) : ∃ I2, RV I2 A ch N (blk ch q) ∧ (∀ j, j ≠ 37 → I2 j = I j) ∧ BL ch q (blk ch q) ∧ blk ch q ≤ N ∧ self4 x1 x2 I2 A = some o := by
  have hn := h.2.1.2.2
  unfold f_readRemarks_344 at hf
  obtain ⟨I1, e_I1, hf⟩ := m_bndE hf
  have R1 : RV I1 A ch N q := rv_at h e_I1 ht (by omega)
  obtain ⟨⟨r2, Ic2, Ac2⟩, h_r2, hf⟩ := m_clE hf
  dsimp only at hf
  obtain ⟨b1, b2, b3, b4, b5⟩ := rv_bl R1 h_r2
  dsimp only at b2 b3 b4
  rw [b3] at b2 hf
  exact ⟨Ic2, b2, fun j hj => by rw [b4 j hj, e_I1, upd_ne hj], b1, by omega, hf⟩
theorem rm_247 {self4 : Int32 → Int32 → (Nat → Int32) → (Nat → Nat → Int32) → Option (Int32 × MS)} {n0 a : Int} {A0 : Nat → Nat → Int32} (h4 : x4.toInt = 0 ∨ x4.toInt = 1) (h5 : x5.toInt = a) (ha : 0 ≤ a) (h6 : x6.toInt = n0) (hn0 : 0 ≤ n0 ∧ a + n0 ≤ N) (h7 : x7.toInt = (k : Int)) (hk : k ≤ 601) (h8 : x8.toInt = (r.length : Int)) (h9 : x9.toInt = if n0.toNat = 0 ∨ r = [] then 0 else 1) (hl : ((jnR r ch a n0.toNat).length : Int) ≤ 200) (hp9 : p + x4.toInt ≤ N) : ∀ (n : Nat) (x10 : Int32) (A : Nat → Nat → Int32) (i : Nat), x10.toInt = (i : Int) → (i : Int) ≤ n0 → RV I A ch N p → RFm I I A0 A k → (∀ j : Nat, (j : Int) < (r.length : Int) + x9.toInt + (i : Int) → (A 15 (200 * k + j)).toInt = wA (jnR r ch a n0.toNat) (j : Int)) → f_readRemarks_247 self4 n x1 x2 x4 x5 x6 x7 x8 x9 x10 I A = some o → ∃ I2 A2, RV I2 A2 ch N (blk ch (p + x4.toInt)) ∧ RFm I I2 A0 A2 k ∧ NRr A2 k (jnR r ch a n0.toNat) ∧ BL ch (p + x4.toInt) (blk ch (p + x4.toInt)) ∧ blk ch (p + x4.toInt) ≤ N ∧ self4 x1 x2 I2 A2 = some o := by
  intro n
  induction n with
  | zero => intro x10 A i _ _ _ _ _ hf; cases hf
  | succ n ih =>
    intro x10 A i hx hi hR hF hw hf
    have hf : f_readRemarks_247s self4 (f_readRemarks_247 self4 n) x1 x2 x4 x5 x6 x7 x8 x9 x10 I A = some o := hf
    obtain ⟨⟨hI, hA⟩, ⟨hc, hN, hn⟩, hcb, h37, hp⟩ := id hR
    have jl := jnR_l (r := r) (ch := ch) (a := a) (k := n0.toNat)
    rw [← h9] at jl
    have xb : x9.toInt = 0 ∨ x9.toInt = 1 := by rw [h9]; split <;> omega
    have xn7 : x7.toNatClampNeg = k := cl_n h7
    have fin : ∀ (A3 : Nat → Nat → Int32) (v2 : Int32), v2.toInt = ((jnR r ch a n0.toNat).length : Int) → A3 = va_up A 14 (upd (A 14) x7.toNatClampNeg v2) → n0 ≤ (i : Int) → RV I A3 ch N p ∧ RFm I I A0 A3 k ∧ NRr A3 k (jnR r ch a n0.toNat) := by
      intro A3 v2 hv e hni
      rw [xn7] at e
      have o3 : ∀ j, j ≠ 14 → A3 j = A j := fun j hj => by rw [e]; exact va_up_ne _ _ hj
      have s3 : A3 14 = upd (A 14) k v2 := by rw [e]; exact va_up_self _ _ _
      refine ⟨rv_A hR (by rw [e]; exact tk_u hA (show (0 : Int) ≤ v2.toInt by omega) (show v2.toInt ≤ (200 : Int) by omega)) (o3 2 (by decide)), ⟨hF.1, fun j j1 j2 => (o3 j j1).trans (hF.2.1 j j1 j2), fun j hj => by rw [s3, upd_ne hj]; exact hF.2.2.1 j hj, fun j hj => by rw [o3 15 (by decide)]; exact hF.2.2.2 j hj⟩, by rw [s3, upd_self]; exact hv, fun j hj => ?_⟩
      rw [o3 15 (by decide)]
      exact hw j (by omega)
    have go : ∀ (t0 v8 : Int32), t0.toInt = rmC (ch (a + (i : Int))) → v8.toInt = ((200 * k : Nat) : Int) + (r.length : Int) + x9.toInt + (i : Int) → (i : Int) < n0 → f_readRemarks_303 self4 (f_readRemarks_247 self4 n) x1 x2 x4 x5 x6 x7 x8 x9 x10 t0 v8 I A = some o → ∃ I2 A2, RV I2 A2 ch N (blk ch (p + x4.toInt)) ∧ RFm I I2 A0 A2 k ∧ NRr A2 k (jnR r ch a n0.toNat) ∧ BL ch (p + x4.toInt) (blk ch (p + x4.toInt)) ∧ blk ch (p + x4.toInt) ≤ N ∧ self4 x1 x2 I2 A2 = some o := by
      intro t0 v8 ht hv hlt hf
      unfold f_readRemarks_303 at hf
      obtain ⟨-, hf⟩ := m_chkE hf
      obtain ⟨A1, e1, hf⟩ := m_bndE hf
      obtain ⟨v2, e2, hf⟩ := m_bndE hf
      have t2 : v2.toInt = x10.toInt + 1 := ti_add e2 rfl (show (1 : Int32).toInt = 1 from rfl) (by omega) (by omega)
      have b0 := hcb (a + (i : Int))
      have tb : 0 ≤ t0.toInt ∧ t0.toInt ≤ 127 := by rw [ht]; unfold rmC; split <;> omega
      have nt : (vp_nar .char t0).toInt = t0.toInt := nar_ci rfl (by omega) (by omega)
      obtain ⟨m, hm⟩ : ∃ m : Nat, (m : Int) = (r.length : Int) + x9.toInt + (i : Int) := ⟨((r.length : Int) + x9.toInt + (i : Int)).toNat, by omega⟩
      have xn8 : v8.toNatClampNeg = 200 * k + m := cl_n (by omega)
      rw [xn8] at e1
      have o1 : ∀ j, j ≠ 15 → A1 j = A j := fun j hj => by rw [e1]; exact va_up_ne _ _ hj
      have s1 : A1 15 = upd (A 15) (200 * k + m) (vp_nar .char t0) := by rw [e1]; exact va_up_self _ _ _
      refine ih v2 A1 (i + 1) (by omega) (by omega) (rv_A hR (by rw [e1]; exact tk_u hA (show (0 : Int) ≤ (vp_nar .char t0).toInt by omega) (show (vp_nar .char t0).toInt ≤ (65535 : Int) by omega)) (o1 2 (by decide))) ⟨hF.1, fun j j1 j2 => (o1 j j2).trans (hF.2.1 j j1 j2), fun j hj => by rw [o1 14 (by decide)]; exact hF.2.2.1 j hj, fun j hj => by rw [s1, upd_ne (by omega)]; exact hF.2.2.2 j hj⟩ (fun j hj => ?_) hf
      rw [s1]
      by_cases e : j = m
      · rw [e, upd_self, nt, ht]
        unfold jnR
        have nn : n0.toNat ≠ 0 := by omega
        rw [if_neg nn]
        have pre : ((if r = [] then ([] : List Int) else r ++ [32]).length : Int) = (r.length : Int) + x9.toInt := by
          rw [h9]
          by_cases c : r = []
          · rw [if_pos c, if_pos (Or.inr c), c]; rfl
          · rw [if_neg c, if_neg (fun g => g.elim nn c), List.length_append]; rfl
        rw [wA_r (by omega), show (m : Int) - ((if r = [] then ([] : List Int) else r ++ [32]).length : Int) = (i : Int) by omega]
        exact (rmL_at (by omega)).symm
      · rw [upd_ne (by omega)]
        exact hw j (by omega)
    unfold f_readRemarks_247s at hf
    rcases m_ifE hf with ⟨c1, hf⟩ | ⟨c1, hf⟩
    · skip
      replace c1 := ti_leP (a := x6) (b := x10) c1 rfl rfl
      obtain ⟨v1, e_v1, hf⟩ := m_bndE hf
      have t_v1 : v1.toInt = x8.toInt + x9.toInt := ti_add e_v1 rfl rfl (by omega) (by omega)
      obtain ⟨v2, e_v2, hf⟩ := m_bndE hf
      have t_v2 : v2.toInt = v1.toInt + x6.toInt := ti_add e_v2 rfl rfl (by omega) (by omega)
      obtain ⟨-, hf⟩ := m_chkE hf
      obtain ⟨A3, e_A3, hf⟩ := m_bndE hf
      obtain ⟨g1, g2, g3⟩ := fin A3 v2 (by omega) e_A3 (by omega)
      rcases m_ifE hf with ⟨c2, hf⟩ | ⟨c2, hf⟩
      · skip
        replace c2 := ti_eqP (a := x4) (b := (0 : Int32)) c2 rfl (show (0 : Int32).toInt = 0 from rfl)
        obtain ⟨I2, d1, d2, d3, d4, d5⟩ := rm_344 (q := p) g1 h37 (by omega) hf
        have e0 : p + x4.toInt = p := by omega
        rw [e0]
        exact ⟨I2, A3, d1, ⟨d2, g2.2⟩, g3, d3, d4, d5⟩
      · skip
        replace c2 := ti_eqN (a := x4) (b := (0 : Int32)) c2 rfl (show (0 : Int32).toInt = 0 from rfl)
        obtain ⟨v4, e_v4, hf⟩ := m_bndE hf
        have t_v4 : v4.toInt = (I 37).toInt + 1 := ti_add e_v4 rfl (show (1 : Int32).toInt = 1 from rfl) (by omega) (by omega)
        obtain ⟨I2, d1, d2, d3, d4, d5⟩ := rm_344 (q := p + 1) g1 (by omega) (by omega) hf
        have e0 : p + x4.toInt = p + 1 := by omega
        rw [e0]
        exact ⟨I2, A3, d1, ⟨d2, g2.2⟩, g3, d3, d4, d5⟩
    · skip
      replace c1 := ti_leN (a := x6) (b := x10) c1 rfl rfl
      obtain ⟨v5, e_v5, hf⟩ := m_bndE hf
      have t_v5 : v5.toInt = 200 * x7.toInt := ti_mul e_v5 (show (200 : Int32).toInt = 200 from rfl) rfl (by omega) (by omega)
      obtain ⟨v6, e_v6, hf⟩ := m_bndE hf
      have t_v6 : v6.toInt = v5.toInt + x8.toInt := ti_add e_v6 rfl rfl (by omega) (by omega)
      obtain ⟨v7, e_v7, hf⟩ := m_bndE hf
      have t_v7 : v7.toInt = v6.toInt + x9.toInt := ti_add e_v7 rfl rfl (by omega) (by omega)
      obtain ⟨v8, e_v8, hf⟩ := m_bndE hf
      have t_v8 : v8.toInt = v7.toInt + x10.toInt := ti_add e_v8 rfl rfl (by omega) (by omega)
      obtain ⟨v9, e_v9, hf⟩ := m_bndE hf
      have t_v9 : v9.toInt = x5.toInt + x10.toInt := ti_add e_v9 rfl rfl (by omega) (by omega)
      obtain ⟨-, hf⟩ := m_chkE hf
      obtain ⟨v10, e_v10, hf⟩ := m_bndE hf
      have q10 := rv_tx hR e_v10 (by omega) (by omega)
      rw [show v9.toInt = a + (i : Int) by omega] at q10
      rcases m_ifE hf with ⟨c3, hf⟩ | ⟨c3, hf⟩
      · skip
        replace c3 := ti_eqP (a := v10) (b := (10 : Int32)) c3 rfl (show (10 : Int32).toInt = 10 from rfl)
        exact go 32 v8 (by unfold rmC; rw [if_pos (by omega)]; rfl) (by omega) (by omega) hf
      · skip
        replace c3 := ti_eqN (a := v10) (b := (10 : Int32)) c3 rfl (show (10 : Int32).toInt = 10 from rfl)
        obtain ⟨v11, e_v11, hf⟩ := m_bndE hf
        have t_v11 : v11.toInt = x5.toInt + x10.toInt := ti_add e_v11 rfl rfl (by omega) (by omega)
        obtain ⟨-, hf⟩ := m_chkE hf
        obtain ⟨v12, e_v12, hf⟩ := m_bndE hf
        have q12 := rv_tx hR e_v12 (by omega) (by omega)
        rw [show v11.toInt = a + (i : Int) by omega] at q12
        exact go v12 v8 (by unfold rmC; rw [if_neg (by omega)]; exact q12) (by omega) (by omega) hf
end RVS
end
section
section RMR
variable {I I0 : Nat → Int32} {A A0 : Nat → Nat → Int32} {ch : Int → Int} {N p q p0 : Int} {k : Nat} {r : List Int} {o : Int32 × MS} {x1 x2 x3 x4 x5 x6 x7 x8 t0 : Int32}
/-- how one remark ends, by the reference: too long, or it goes on -/
noncomputable def RMo (self4 : Int32 → Int32 → (Nat → Int32) → (Nat → Nat → Int32) → Option (Int32 × MS)) (x1 x2 : Int32) (I : Nat → Int32) (A : Nat → Nat → Int32) (ch : Int → Int) (N : Int) (k : Nat) (r : List Int) (p0 : Int) (o : Int32 × MS) : Prop := (0 < o.1.toInt ∧ ((∀ q, ¬ RM1 ch N p0 q) ∨ ∃ q, RM1 ch N p0 q ∧ 200 < ((jnR r ch (p0 + 1) (q - (p0 + 1)).toNat).length : Int)) ∧ RFm I o.2.1 A o.2.2 k) ∨ (∃ q I2 A2, RM1 ch N p0 q ∧ ((jnR r ch (p0 + 1) (q - (p0 + 1)).toNat).length : Int) ≤ 200 ∧ RV I2 A2 ch N (blk ch (if ch p0 = 123 then q + 1 else q)) ∧ RFm I I2 A A2 k ∧ NRr A2 k (jnR r ch (p0 + 1) (q - (p0 + 1)).toNat) ∧ BL ch (if ch p0 = 123 then q + 1 else q) (blk ch (if ch p0 = 123 then q + 1 else q)) ∧ blk ch (if ch p0 = 123 then q + 1 else q) ≤ N ∧ self4 x1 x2 I2 A2 = some o)
theorem rm_199 {self4 : Int32 → Int32 → (Nat → Int32) → (Nat → Nat → Int32) → Option (Int32 × MS)} (hR : RV I A ch N p) (hr : NRr A k r) (hp0 : 0 ≤ p0 ∧ p0 < p) (hq : RM1 ch N p0 p) (h3 : x3.toInt = p0) (h4 : (x4.toInt = 1 ∧ ch p0 = 123) ∨ (x4.toInt = 0 ∧ ch p0 = 59)) (h5 : x5.toInt = p0 + 1) (h6 : x6.toInt = p - (p0 + 1)) (h7 : x7.toInt = (k : Int)) (hk : k ≤ 601) (h8 : x8.toInt = (r.length : Int)) (ht : t0.toInt = if (p - (p0 + 1)).toNat = 0 ∨ r = [] then 0 else 1) (hr2 : (r.length : Int) ≤ 200) (hf : f_readRemarks_199 self4 x1 x2 x3 x4 x5 x6 x7 x8 t0 I A = some o) : RMo self4 x1 x2 I A ch N k r p0 o := by
  obtain ⟨⟨hI, hA⟩, ⟨hc, hN, hn⟩, hcb, h37, hp⟩ := id hR
  have tb : t0.toInt = 0 ∨ t0.toInt = 1 := by rw [ht]; split <;> omega
  have jl := jnR_l (r := r) (ch := ch) (a := p0 + 1) (k := (p - (p0 + 1)).toNat)
  rw [← ht] at jl
  have hpN : p ≤ N ∧ (ch p0 = 123 → p < N) := by rcases hq with g | g <;> constructor <;> omega
  have go : ∀ A1, RV I A1 ch N p → RFm I I A A1 k → (∀ j : Nat, (j : Int) < (r.length : Int) + t0.toInt → (A1 15 (200 * k + j)).toInt = wA (jnR r ch (p0 + 1) (p - (p0 + 1)).toNat) (j : Int)) → ((jnR r ch (p0 + 1) (p - (p0 + 1)).toNat).length : Int) ≤ 200 → f_readRemarks_244 self4 x1 x2 x4 x5 x6 x7 x8 t0 I A1 = some o → RMo self4 x1 x2 I A ch N k r p0 o := by
    intro A1 R1 F1 w1 hl hf
    unfold f_readRemarks_244 at hf
    obtain ⟨I2, A2, d1, d2, d3, d4, d5, d6⟩ := rm_247 (A0 := A) (n0 := p - (p0 + 1)) (a := p0 + 1) (by omega) h5 (by omega) h6 (by omega) h7 hk h8 ht hl (by omega) mFuel 0 A1 0 rfl (by omega) R1 F1 (fun j hj => w1 j (by omega)) hf
    have e1 : p + x4.toInt = (if ch p0 = 123 then p + 1 else p) := by
      rcases h4 with ⟨a, b⟩ | ⟨a, b⟩
      · rw [if_pos b]; omega
      · rw [if_neg (by omega)]; omega
    rw [e1] at d1 d4 d5
    exact Or.inr ⟨p, I2, A2, hq, hl, d1, d2, d3, d4, d5, d6⟩
  have old : ∀ j : Nat, (j : Int) < (r.length : Int) → wA (jnR r ch (p0 + 1) (p - (p0 + 1)).toNat) (j : Int) = wA r (j : Int) := fun j hj => by
    unfold jnR
    split
    · rfl
    · rw [wA_l (by split
                   · next c => rw [c] at hj; exact hj
                   · rw [List.length_append]; omega)]
      split
      · next c => rw [c]
      · rw [wA_app, if_neg (by omega)]
  unfold f_readRemarks_199 at hf
  obtain ⟨v1, e_v1, hf⟩ := m_bndE hf
  have t_v1 : v1.toInt = x8.toInt + t0.toInt := ti_add e_v1 rfl rfl (by omega) (by omega)
  obtain ⟨v2, e_v2, hf⟩ := m_bndE hf
  have t_v2 : v2.toInt = v1.toInt + x6.toInt := ti_add e_v2 rfl rfl (by omega) (by omega)
  rcases m_ifE hf with ⟨c1, hf⟩ | ⟨c1, hf⟩
  · skip
    replace c1 := ti_leP (a := v2) (b := (200 : Int32)) c1 rfl (show (200 : Int32).toInt = 200 from rfl)
    rcases m_ifE hf with ⟨c2, hf⟩ | ⟨c2, hf⟩
    · skip
      replace c2 := ti_eqP (a := t0) (b := (1 : Int32)) c2 rfl (show (1 : Int32).toInt = 1 from rfl)
      obtain ⟨v3, e_v3, hf⟩ := m_bndE hf
      have t_v3 : v3.toInt = 200 * x7.toInt := ti_mul e_v3 (show (200 : Int32).toInt = 200 from rfl) rfl (by omega) (by omega)
      obtain ⟨v4, e_v4, hf⟩ := m_bndE hf
      have t_v4 : v4.toInt = v3.toInt + x8.toInt := ti_add e_v4 rfl rfl (by omega) (by omega)
      obtain ⟨-, hf⟩ := m_chkE hf
      obtain ⟨A5, e_A5, hf⟩ := m_bndE hf
      obtain ⟨nn, rn⟩ : (p - (p0 + 1)).toNat ≠ 0 ∧ r ≠ [] := ⟨fun e => by rw [if_pos (Or.inl e)] at ht; omega, fun e => by rw [if_pos (Or.inr e)] at ht; omega⟩
      have n32 : (vp_nar .char (32 : Int32)).toInt = 32 := by decide
      have xn : v4.toNatClampNeg = 200 * k + r.length := cl_n (by omega)
      rw [xn] at e_A5
      have o5 : ∀ j, j ≠ 15 → A5 j = A j := fun j hj => by rw [e_A5]; exact va_up_ne _ _ hj
      have s5 : A5 15 = upd (A 15) (200 * k + r.length) (vp_nar .char (32 : Int32)) := by rw [e_A5]; exact va_up_self _ _ _
      refine go A5 (rv_A hR (by rw [e_A5]; exact tk_u hA (show (0 : Int) ≤ (vp_nar .char (32 : Int32)).toInt by omega) (show (vp_nar .char (32 : Int32)).toInt ≤ (65535 : Int) by omega)) (o5 2 (by decide))) ⟨fun _ _ => rfl, fun j _ j2 => o5 j j2, fun j _ => by rw [o5 14 (by decide)], fun j hj => by rw [s5, upd_ne (by omega)]⟩ (fun j hj => ?_) (by omega) hf
      rw [s5]
      by_cases e : j = r.length
      · rw [e, upd_self, n32]
        unfold jnR
        rw [if_neg nn, if_neg rn, wA_l (by rw [List.length_append]; show _ < ((r.length + 1 : Nat) : Int); omega), wA_app, if_pos rfl]
      · rw [upd_ne (by omega), old j (by omega)]
        exact hr.2 j (by omega)
    · skip
      replace c2 := ti_eqN (a := t0) (b := (1 : Int32)) c2 rfl (show (1 : Int32).toInt = 1 from rfl)
      exact go A hR rfm_0 (fun j hj => by rw [old j (by omega)]; exact hr.2 j (by omega)) (by omega) hf
  · skip
    replace c1 := ti_leN (a := v2) (b := (200 : Int32)) c1 rfl (show (200 : Int32).toInt = 200 from rfl)
    obtain ⟨r6, h_r6, hf⟩ := m_clR hf (fun _ h => rro_fault h)
    have q6 := v_fault (x1 := 8) (x2 := x3) (by decide) (by omega) h_r6
    dsimp only at q6
    have z8 : (8 : Int32).toInt = 8 := rfl
    cases hf
    try dsimp only
    exact Or.inl ⟨by show 0 < r6.toInt; omega, Or.inr ⟨p, hq, by omega⟩, rfm_0⟩
theorem rm_157 {self4 : Int32 → Int32 → (Nat → Int32) → (Nat → Nat → Int32) → Option (Int32 × MS)} {g nd : Int} (hR : RV I A ch N p) (hr : NRr A k r) (hr2 : (r.length : Int) ≤ 200) (hp0 : 0 ≤ p0 ∧ p0 < p) (hq : RM1 ch N p0 p) (h1 : x1.toInt = g) (h2 : x2.toInt = nd) (hg : 0 ≤ g ∧ g ≤ 1) (hnd : 0 ≤ nd ∧ nd ≤ 300) (hk : (k : Int) = 301 * g + nd) (h3 : x3.toInt = p0) (h4 : (x4.toInt = 1 ∧ ch p0 = 123) ∨ (x4.toInt = 0 ∧ ch p0 = 59)) (h5 : x5.toInt = p0 + 1) (hf : f_readRemarks_157 self4 x1 x2 x3 x4 x5 I A = some o) : RMo self4 x1 x2 I A ch N k r p0 o := by
  obtain ⟨⟨hI, hA⟩, ⟨hc, hN, hn⟩, hcb, h37, hp⟩ := id hR
  have l1 := hr.1
  have q4 : ∀ v : Int32, v.toInt = (k : Int) → ∀ w : Int32, w = A 14 v.toNatClampNeg → w.toInt = (r.length : Int) := fun v hv w hw => by rw [hw, cl_n hv]; exact l1
  unfold f_readRemarks_157 at hf
  obtain ⟨v1, e_v1, hf⟩ := m_bndE hf
  have t_v1 : v1.toInt = (I 37).toInt - x5.toInt := ti_sub e_v1 rfl rfl (by omega) (by omega)
  obtain ⟨v2, e_v2, hf⟩ := m_bndE hf
  have t_v2 : v2.toInt = 301 * x1.toInt := ti_mul e_v2 (show (301 : Int32).toInt = 301 from rfl) rfl (by omega) (by omega)
  obtain ⟨v3, e_v3, hf⟩ := m_bndE hf
  have t_v3 : v3.toInt = v2.toInt + x2.toInt := ti_add e_v3 rfl rfl (by omega) (by omega)
  obtain ⟨-, hf⟩ := m_chkE hf
  obtain ⟨v4, e_v4, hf⟩ := m_bndE hf
  have t4 := q4 v3 (by omega) v4 e_v4
  rcases m_ifE hf with ⟨c1, hf⟩ | ⟨c1, hf⟩
  · skip
    replace c1 := ti_leP (a := v1) (b := (0 : Int32)) c1 rfl (show (0 : Int32).toInt = 0 from rfl)
    unfold f_readRemarks_198 at hf
    exact rm_199 hR hr hp0 hq h3 h4 h5 (by omega) (by omega) (by omega) t4 (by rw [if_pos (Or.inl (by omega))]; rfl) hr2 hf
  · skip
    replace c1 := ti_leN (a := v1) (b := (0 : Int32)) c1 rfl (show (0 : Int32).toInt = 0 from rfl)
    rcases m_ifE hf with ⟨c2, hf⟩ | ⟨c2, hf⟩
    · skip
      replace c2 := ti_leP (a := v4) (b := (0 : Int32)) c2 rfl (show (0 : Int32).toInt = 0 from rfl)
      unfold f_readRemarks_198 at hf
      exact rm_199 hR hr hp0 hq h3 h4 h5 (by omega) (by omega) (by omega) t4 (by rw [if_pos (Or.inr (List.eq_nil_of_length_eq_zero (by omega)))]; rfl) hr2 hf
    · skip
      replace c2 := ti_leN (a := v4) (b := (0 : Int32)) c2 rfl (show (0 : Int32).toInt = 0 from rfl)
      refine rm_199 hR hr hp0 hq h3 h4 h5 (by omega) (by omega) (by omega) t4 ?_ hr2 hf
      rw [if_neg]
      · rfl
      · rintro (e | e)
        · omega
        · rw [e] at t4
          have : ((([] : List Int).length : Nat) : Int) = 0 := rfl
          omega
theorem rm_59 {self4 : Int32 → Int32 → (Nat → Int32) → (Nat → Nat → Int32) → Option (Int32 × MS)} {g nd : Int} (hr : NRr A k r) (hr2 : (r.length : Int) ≤ 200) (hp0 : 0 ≤ p0 ∧ p0 < N) (h1 : x1.toInt = g) (h2 : x2.toInt = nd) (hg : 0 ≤ g ∧ g ≤ 1) (hnd : 0 ≤ nd ∧ nd ≤ 300) (hk : (k : Int) = 301 * g + nd) (h3 : x3.toInt = p0) (h4 : (x4.toInt = 1 ∧ ch p0 = 123) ∨ (x4.toInt = 0 ∧ ch p0 = 59)) (h5 : x5.toInt = p0 + 1) : ∀ (n : Nat) (I : Nat → Int32) (p : Int), RV I A ch N p → (∀ j, j ≠ 37 → I j = I0 j) → (p0 + 1 ≤ p ∧ p ≤ N) → (∀ j, p0 + 1 ≤ j → j < p → (ch p0 = 123 → ch j ≠ 125) ∧ (ch p0 = 59 → ch j ≠ 10 ∧ ch j ≠ 125)) → f_readRemarks_59 self4 n x1 x2 x3 x4 x5 I A = some o → RMo self4 x1 x2 I0 A ch N k r p0 o := by
  intro n
  induction n with
  | zero => intro I p _ _ _ _ hf; cases hf
  | succ n ih =>
    intro I p hR hI0 hpp hs hf
    have hf : f_readRemarks_59s self4 (f_readRemarks_59 self4 n) x1 x2 x3 x4 x5 I A = some o := hf
    obtain ⟨⟨hI, hA⟩, ⟨hc, hN, hn⟩, hcb, h37, hp⟩ := id hR
    have fin : RM1 ch N p0 p → f_readRemarks_157 self4 x1 x2 x3 x4 x5 I A = some o → RMo self4 x1 x2 I0 A ch N k r p0 o := by
      intro hq hf
      rcases rm_157 hR hr hr2 (by omega) hq h1 h2 hg hnd hk h3 h4 h5 hf with a | ⟨q, I2, A2, a1, a2, a3, a4, a5⟩
      · exact Or.inl ⟨a.1, a.2.1, fun j hj => (a.2.2.1 j hj).trans (hI0 j hj), a.2.2.2⟩
      · exact Or.inr ⟨q, I2, A2, a1, a2, a3, ⟨fun j hj => (a4.1 j hj).trans (hI0 j hj), a4.2⟩, a5⟩
    have end2 : (ch p0 = 123 → p < N → ch p = 125) → (ch p0 = 59 → p < N → ch p = 10) → f_readRemarks_132 self4 x1 x2 x3 x4 x5 I A = some o → RMo self4 x1 x2 I0 A ch N k r p0 o := by
      intro e1 e2 hf
      unfold f_readRemarks_132 at hf
      rcases m_ifE hf with ⟨c1, hf⟩ | ⟨c1, hf⟩
      · skip
        replace c1 := ti_eqP (a := x4) (b := (0 : Int32)) c1 rfl (show (0 : Int32).toInt = 0 from rfl)
        have c59 : ch p0 = 59 := by omega
        refine fin (Or.inr ⟨c59, hpp.1, hpp.2, ?_, fun j j0 j1 => (hs j j0 j1).2 c59⟩) hf
        by_cases c : p = N
        · exact Or.inl c
        · exact Or.inr (e2 c59 (by omega))
      · skip
        replace c1 := ti_eqN (a := x4) (b := (0 : Int32)) c1 rfl (show (0 : Int32).toInt = 0 from rfl)
        rcases m_ifE hf with ⟨c2, hf⟩ | ⟨c2, hf⟩
        · skip
          replace c2 := ti_eqP (a := (I 37)) (b := (I 1)) c2 rfl rfl
          obtain ⟨r1, h_r1, hf⟩ := m_clR hf (fun _ h => rro_fault h)
          have q1 := v_fault (x1 := 1) (x2 := I 37) (by decide) (by omega) h_r1
          dsimp only at q1
          have z1 : (1 : Int32).toInt = 1 := rfl
          cases hf
          try dsimp only
          have c123 : ch p0 = 123 := by omega
          refine Or.inl ⟨by show 0 < r1.toInt; omega, Or.inl (fun q hq => ?_), hI0, fun _ _ _ => rfl, fun _ _ => rfl, fun _ _ => rfl⟩
          rcases hq with ⟨g1, g2, g3, g4, g5⟩ | g
          · exact (hs q g2 (by omega)).1 c123 g4
          · omega
        · skip
          replace c2 := ti_eqN (a := (I 37)) (b := (I 1)) c2 rfl rfl
          have c123 : ch p0 = 123 := by omega
          exact fin (Or.inl ⟨c123, hpp.1, by omega, e1 c123 (by omega), fun j j0 j1 => (hs j j0 j1).1 c123⟩) hf
    have go : p < N → (ch p0 = 123 → ch p ≠ 125) → (ch p0 = 59 → ch p ≠ 10) → f_readRemarks_96 self4 (f_readRemarks_59 self4 n) x1 x2 x3 x4 x5 I A = some o → RMo self4 x1 x2 I0 A ch N k r p0 o := by
      intro hlt e1 e2 hf
      have more : (ch p0 = 59 → ch p ≠ 125) → f_readRemarks_119 self4 (f_readRemarks_59 self4 n) x1 x2 x3 x4 x5 I A = some o → RMo self4 x1 x2 I0 A ch N k r p0 o := by
        intro e3 hf
        unfold f_readRemarks_119 at hf
        obtain ⟨v1, e_v1, hf⟩ := m_bndE hf
        have t_v1 : v1.toInt = (I 37).toInt + 1 := ti_add e_v1 rfl (show (1 : Int32).toInt = 1 from rfl) (by omega) (by omega)
        obtain ⟨I2, e_I2, hf⟩ := m_bndE hf
        refine ih I2 (p + 1) (rv_at hR e_I2 (by omega) (by omega)) (fun j hj => by rw [e_I2, upd_ne hj]; exact hI0 j hj) (by omega) (fun j j0 j1 => ?_) hf
        by_cases e : j = p
        · rw [e]; exact ⟨e1, fun c => ⟨e2 c, e3 c⟩⟩
        · exact hs j j0 (by omega)
      unfold f_readRemarks_96 at hf
      rcases m_ifE hf with ⟨c1, hf⟩ | ⟨c1, hf⟩
      · skip
        replace c1 := ti_eqP (a := x4) (b := (0 : Int32)) c1 rfl (show (0 : Int32).toInt = 0 from rfl)
        obtain ⟨r1, h_r1, hf⟩ := m_clR hf (fun _ h => rro_look h)
        have p_r1 := pc_look h_r1
        dsimp only at p_r1
        have q1 := rv_lk hR h_r1
        dsimp only at q1
        clear p_r1
        rcases m_ifE hf with ⟨c2, hf⟩ | ⟨c2, hf⟩
        · skip
          replace c2 := ti_eqP (a := r1) (b := (125 : Int32)) c2 rfl (show (125 : Int32).toInt = 125 from rfl)
          obtain ⟨r2, h_r2, hf⟩ := m_clR hf (fun _ h => rro_fault h)
          have q2 := v_fault (x1 := 1) (x2 := I 37) (by decide) (by omega) h_r2
          dsimp only at q2
          have z1 : (1 : Int32).toInt = 1 := rfl
          cases hf
          try dsimp only
          refine Or.inl ⟨by show 0 < r2.toInt; omega, Or.inl (fun q hq => ?_), hI0, fun _ _ _ => rfl, fun _ _ => rfl, fun _ _ => rfl⟩
          rcases hq with g | ⟨g1, g2, g3, g4, g5⟩
          · omega
          · by_cases c : p < q
            · exact (g5 p hpp.1 c).2 (by omega)
            · rcases g4 with g4 | g4
              · omega
              · by_cases e : q = p
                · rw [e] at g4; omega
                · exact ((hs q g2 (by omega)).2 g1).1 g4
        · skip
          replace c2 := ti_eqN (a := r1) (b := (125 : Int32)) c2 rfl (show (125 : Int32).toInt = 125 from rfl)
          exact more (fun _ => by omega) hf
      · skip
        replace c1 := ti_eqN (a := x4) (b := (0 : Int32)) c1 rfl (show (0 : Int32).toInt = 0 from rfl)
        exact more (fun c => by omega) hf
    unfold f_readRemarks_59s at hf
    rcases m_ifE hf with ⟨c1, hf⟩ | ⟨c1, hf⟩
    · skip
      replace c1 := ti_leP (a := (I 1)) (b := (I 37)) c1 rfl rfl
      exact end2 (fun _ l => by omega) (fun _ l => by omega) hf
    · skip
      replace c1 := ti_leN (a := (I 1)) (b := (I 37)) c1 rfl rfl
      rcases m_ifE hf with ⟨c2, hf⟩ | ⟨c2, hf⟩
      · skip
        replace c2 := ti_eqP (a := x4) (b := (0 : Int32)) c2 rfl (show (0 : Int32).toInt = 0 from rfl)
        obtain ⟨r1, h_r1, hf⟩ := m_clR hf (fun _ h => rro_look h)
        have p_r1 := pc_look h_r1
        dsimp only at p_r1
        have q1 := rv_lk hR h_r1
        dsimp only at q1
        clear p_r1
        rcases m_ifE hf with ⟨c3, hf⟩ | ⟨c3, hf⟩
        · skip
          replace c3 := ti_eqP (a := r1) (b := (10 : Int32)) c3 rfl (show (10 : Int32).toInt = 10 from rfl)
          exact end2 (fun c _ => by omega) (fun _ _ => by omega) hf
        · skip
          replace c3 := ti_eqN (a := r1) (b := (10 : Int32)) c3 rfl (show (10 : Int32).toInt = 10 from rfl)
          exact go (by omega) (fun c => by omega) (fun _ => by omega) hf
      · skip
        replace c2 := ti_eqN (a := x4) (b := (0 : Int32)) c2 rfl (show (0 : Int32).toInt = 0 from rfl)
        obtain ⟨r2, h_r2, hf⟩ := m_clR hf (fun _ h => rro_look h)
        have p_r2 := pc_look h_r2
        dsimp only at p_r2
        have q2 := rv_lk hR h_r2
        dsimp only at q2
        clear p_r2
        rcases m_ifE hf with ⟨c4, hf⟩ | ⟨c4, hf⟩
        · skip
          replace c4 := ti_eqP (a := r2) (b := (125 : Int32)) c4 rfl (show (125 : Int32).toInt = 125 from rfl)
          exact end2 (fun _ _ => by omega) (fun c _ => by omega) hf
        · skip
          replace c4 := ti_eqN (a := r2) (b := (125 : Int32)) c4 rfl (show (125 : Int32).toInt = 125 from rfl)
          exact go (by omega) (fun _ => by omega) (fun c => by omega) hf
/-- how the remarks end, by the reference -/
noncomputable def RKr (I : Nat → Int32) (A : Nat → Nat → Int32) (ch : Int → Int) (N : Int) (k : Nat) (z : Option (Int × List Int)) (o : Int32 × MS) : Prop := (∃ e w, z = some (e, w) ∧ o.1.toInt = 0 ∧ (w.length : Int) ≤ 200 ∧ e ≤ N ∧ RV o.2.1 o.2.2 ch N e ∧ RFm I o.2.1 A o.2.2 k ∧ NRr o.2.2 k w) ∨ (z = none ∧ 0 < o.1.toInt ∧ RFm I o.2.1 A o.2.2 k)
theorem rm_4 {g nd : Int} (h1 : x1.toInt = g) (h2 : x2.toInt = nd) (hg : 0 ≤ g ∧ g ≤ 1) (hnd : 0 ≤ nd ∧ nd ≤ 300) (hk : (k : Int) = 301 * g + nd) : ∀ (n : Nat) (I : Nat → Int32) (A : Nat → Nat → Int32) (p : Int) (r : List Int) (c : Nat), RV I A ch N p → RFm I0 I A0 A k → NRr A k r → (r.length : Int) ≤ 200 → p ≤ N → N < p + (c : Int) → 1 ≤ c → f_readRemarks_4 n x1 x2 I A = some o → RKr I0 A0 ch N k (rmkP ch N c p r) o := by
  intro n
  induction n with
  | zero => intro I A p r c _ _ _ _ _ _ _ hf; cases hf
  | succ n ih =>
    intro I A p r c hR hF hr hr2 hpN hc hc1 hf
    have hf : f_readRemarks_4s (f_readRemarks_4 n) x1 x2 I A = some o := hf
    obtain ⟨c2, rfl⟩ : ∃ c2, c = c2 + 1 := ⟨c - 1, by omega⟩
    obtain ⟨⟨hI, hA⟩, ⟨hct, hN, hn⟩, hcb, h37, hp⟩ := id hR
    have more : (ch p = 123 ∨ ch p = 59) → f_readRemarks_22 (f_readRemarks_4 n) x1 x2 I A = some o → RKr I0 A0 ch N k (rmkP ch N (c2 + 1) p r) o := by
      intro hs hf
      have pN : p < N := by
        by_cases e : p < N
        · exact e
        · have := rv_out hR (show N ≤ p by omega); omega
      have one : RMo (f_readRemarks_4 n) x1 x2 I A ch N k r p o → RKr I0 A0 ch N k (rmkP ch N (c2 + 1) p r) o := by
        rintro (⟨a1, a2, a9⟩ | ⟨q, I2, A2, a1, a2, a3, a4, a5, a6, a7, a8⟩)
        · refine Or.inr ⟨?_, a1, rfm_t hF a9⟩
          rcases a2 with a2 | ⟨q, a2, a3⟩
          · exact rkP_n hs a2
          · exact rkP_l a2 a3
        · rw [rkP_s a1 a2]
          have qp : p + 1 ≤ q := by rcases a1 with b | b <;> omega
          have hz : p + 1 ≤ (if ch p = 123 then q + 1 else q) := by split <;> omega
          have bge : p + 1 ≤ blk ch (if ch p = 123 then q + 1 else q) := by
            have := a6.1
            omega
          exact ih I2 A2 _ _ c2 a3 (rfm_t hF a4) a5 a2 a7 (by omega) (by omega) a8
      have go : ∀ t0 : Int32, ((t0.toInt = 1 ∧ ch p = 123) ∨ (t0.toInt = 0 ∧ ch p = 59)) → f_readRemarks_41 (f_readRemarks_4 n) x1 x2 (I 37) t0 I A = some o → RKr I0 A0 ch N k (rmkP ch N (c2 + 1) p r) o := by
        intro t0 ht hf
        unfold f_readRemarks_41 at hf
        obtain ⟨v1, e_v1, hf⟩ := m_bndE hf
        have t_v1 : v1.toInt = (I 37).toInt + 1 := ti_add e_v1 rfl (show (1 : Int32).toInt = 1 from rfl) (by omega) (by omega)
        obtain ⟨I2, e_I2, hf⟩ := m_bndE hf
        have R2 : RV I2 A ch N (p + 1) := rv_at hR e_I2 (by omega) (by omega)
        refine one (rm_59 (I0 := I) (g := g) (nd := nd) hr hr2 (by omega) h1 h2 hg hnd hk h37 ht (by rw [R2.2.2.2.1]) mFuel I2 (p + 1) R2 (fun j hj => by rw [e_I2, upd_ne hj]) (by omega) (fun j j0 j1 => by omega) hf)
      unfold f_readRemarks_22 at hf
      obtain ⟨r1, h_r1, hf⟩ := m_clR hf (fun _ h => rro_look h)
      have p_r1 := pc_look h_r1
      dsimp only at p_r1
      have q1 := rv_lk hR h_r1
      dsimp only at q1
      clear p_r1
      rcases m_ifE hf with ⟨c1, hf⟩ | ⟨c1, hf⟩
      · skip
        replace c1 := ti_eqP (a := r1) (b := (123 : Int32)) c1 rfl (show (123 : Int32).toInt = 123 from rfl)
        exact go 1 (Or.inl ⟨rfl, by omega⟩) hf
      · skip
        replace c1 := ti_eqN (a := r1) (b := (123 : Int32)) c1 rfl (show (123 : Int32).toInt = 123 from rfl)
        exact go 0 (Or.inr ⟨rfl, by omega⟩) hf
    unfold f_readRemarks_4s at hf
    obtain ⟨r1, h_r1, hf⟩ := m_clR hf (fun _ h => rro_look h)
    have p_r1 := pc_look h_r1
    dsimp only at p_r1
    have q1 := rv_lk hR h_r1
    dsimp only at q1
    clear p_r1
    rcases m_ifE hf with ⟨c1, hf⟩ | ⟨c1, hf⟩
    · skip
      replace c1 := ti_eqP (a := r1) (b := (123 : Int32)) c1 rfl (show (123 : Int32).toInt = 123 from rfl)
      exact more (Or.inl (by omega)) hf
    · skip
      replace c1 := ti_eqN (a := r1) (b := (123 : Int32)) c1 rfl (show (123 : Int32).toInt = 123 from rfl)
      obtain ⟨r2, h_r2, hf⟩ := m_clR hf (fun _ h => rro_look h)
      have p_r2 := pc_look h_r2
      dsimp only at p_r2
      have q2 := rv_lk hR h_r2
      dsimp only at q2
      clear p_r2
      rcases m_ifE hf with ⟨c2, hf⟩ | ⟨c2, hf⟩
      · skip
        replace c2 := ti_eqP (a := r2) (b := (59 : Int32)) c2 rfl (show (59 : Int32).toInt = 59 from rfl)
        exact more (Or.inr (by omega)) hf
      · skip
        replace c2 := ti_eqN (a := r2) (b := (59 : Int32)) c2 rfl (show (59 : Int32).toInt = 59 from rfl)
        cases hf
        try dsimp only
        exact Or.inl ⟨p, r, rkP_0 (by omega), rfl, hr2, hpN, hR, hF, hr⟩
/-- the reference reads remarks -/
theorem v_readRemarks {g nd : Int} (h1 : x1.toInt = g) (h2 : x2.toInt = nd) (hg : 0 ≤ g ∧ g ≤ 1) (hnd : 0 ≤ nd ∧ nd ≤ 300) (hk : (k : Int) = 301 * g + nd) (hR : RV I A ch N p) (hpN : p ≤ N) (hr : NRr A k r) (hr2 : (r.length : Int) ≤ 200) (hf : f_readRemarks x1 x2 I A = some o) : RKr I A ch N k (rmkP ch N 2001 (blk ch p) r) o := by
  have hf : f_readRemarks_0 x1 x2 I A = some o := hf
  have hn := hR.2.1.2.2
  unfold f_readRemarks_0 at hf
  obtain ⟨⟨r1, Ic1, Ac1⟩, h_r1, hf⟩ := m_clE hf
  dsimp only at hf
  obtain ⟨b1, b2, b3, b4, b5⟩ := rv_bl hR h_r1
  dsimp only at b2 b3 b4
  rw [b3] at b2 hf
  have b0 := b2.2.2.2.2
  exact rm_4 (I0 := I) (A0 := A) h1 h2 hg hnd hk mFuel Ic1 A (blk ch p) r 2001 b2 ⟨b4, fun _ _ _ => rfl, fun _ _ => rfl, fun _ _ => rfl⟩ hr hr2 (by omega) (by omega) (by decide) hf
end RMR
end
section
/-- digits, at most k, from p on: where they end, what they tell -/
noncomputable def dgs (ch : Int → Int) : Nat → Int → Int → Int × Int
  | 0, p, v => (p, v)
  | k + 1, p, v => if 48 ≤ ch p ∧ ch p ≤ 57 then dgs ch k (p + 1) (10 * v + (ch p - 48)) else (p, v)
noncomputable def DB (k : Nat) (v : Int) : Prop := 0 ≤ v ∧ ((k = 4 ∧ v = 0) ∨ (k = 3 ∧ v ≤ 9) ∨ (k = 2 ∧ v ≤ 99) ∨ (k = 1 ∧ v ≤ 999) ∨ (k = 0 ∧ v ≤ 9999))
section DGS
variable {ch : Int → Int} {p v : Int} {k : Nat}
theorem dgs_y (h : 48 ≤ ch p ∧ ch p ≤ 57) : dgs ch (k + 1) p v = dgs ch k (p + 1) (10 * v + (ch p - 48)) := if_pos h
theorem dgs_n (h : ¬ (48 ≤ ch p ∧ ch p ≤ 57)) : dgs ch (k + 1) p v = (p, v) := if_neg h
theorem dgs_b : ∀ (k : Nat) (p v : Int), p ≤ (dgs ch k p v).1 ∧ (dgs ch k p v).1 ≤ p + (k : Int)
  | 0, p, v => by
    show p ≤ p ∧ p ≤ p + 0
    omega
  | k + 1, p, v => by
    by_cases h : 48 ≤ ch p ∧ ch p ≤ 57
    · rw [dgs_y h]
      have := dgs_b k (p + 1) (10 * v + (ch p - 48))
      omega
    · rw [dgs_n h]
      show p ≤ p ∧ p ≤ p + ((k + 1 : Nat) : Int)
      omega
theorem dgs_v : ∀ (k : Nat) (p v : Int), DB k v → 0 ≤ (dgs ch k p v).2 ∧ (dgs ch k p v).2 ≤ 9999
  | 0, p, v, h => by
    show 0 ≤ v ∧ v ≤ 9999
    unfold DB at h; omega
  | k + 1, p, v, h => by
    by_cases g : 48 ≤ ch p ∧ ch p ≤ 57
    · rw [dgs_y g]
      exact dgs_v k (p + 1) (10 * v + (ch p - 48)) (by unfold DB at h ⊢; omega)
    · rw [dgs_n g]
      show 0 ≤ v ∧ v ≤ 9999
      unfold DB at h; omega
theorem dgs_N {N : Int} (hz : ∀ i, N ≤ i → ch i = 0) : ∀ (k : Nat) (p v : Int), p ≤ N → (dgs ch k p v).1 ≤ N
  | 0, p, v, h => h
  | k + 1, p, v, h => by
    by_cases g : 48 ≤ ch p ∧ ch p ≤ 57
    · rw [dgs_y g]
      refine dgs_N hz k (p + 1) _ ?_
      by_cases e : p < N
      · omega
      · have := hz p (by omega); omega
    · rw [dgs_n g]; exact h
end DGS
section DGC
variable {S0 S S' : ZS} {ch : Int → Int} {N p q : Int} {o : Int32 × ZS} {x1 x2 x3 : Int32}
theorem rd_9 : ∀ (n : Nat) (x3 : Int32) (S : ZS) (q : Int) (k : Nat), x2.toInt = q + (k : Int) → DB k x3.toInt → q + (k : Int) ≤ 3010 → LW S ch N q → FR (fun a => a = 23) S0 S → f_X2_readDigits_9 n 23 x2 x3 S = some o → o.1.toInt = (dgs ch k q x3.toInt).2 ∧ LW o.2 ch N (dgs ch k q x3.toInt).1 ∧ FR (fun a => a = 23) S0 o.2 := by
  intro n
  induction n with
  | zero => intro x3 S q k _ _ _ _ _ hf; cases hf
  | succ n ih =>
    intro x3 S q k hx hD hq h hF hf
    have hf : f_X2_readDigits_9s (f_X2_readDigits_9 n) 23 x2 x3 S = some o := hf
    obtain ⟨hT, ⟨k23, p2, k2⟩, ⟨hc, hN1, hn⟩, hcb, h44, hp⟩ := id h
    have b0 := hcb q
    have hD2 := hD
    unfold DB at hD2
    unfold f_X2_readDigits_9s at hf
    obtain ⟨-, hf⟩ := m_chkE hf
    rcases m_ifE hf with ⟨c1, hf⟩ | ⟨c1, hf⟩
    · skip
      replace c1 := ti_leP (a := x2) (b := (zI S 4 23)) c1 rfl rfl
      unfold f_X2_readDigits_67 at hf
      cases hf
      try dsimp only
      have k0 : k = 0 := by omega
      subst k0
      exact ⟨rfl, h, hF⟩
    · skip
      replace c1 := ti_leN (a := x2) (b := (zI S 4 23)) c1 rfl rfl
      obtain ⟨-, hf⟩ := m_chkE hf
      replace hf := m_calY hf p2
      obtain ⟨-, hf⟩ := m_chkE hf
      obtain ⟨-, hf⟩ := m_chkE hf
      obtain ⟨r2, h_r2, hf⟩ := m_calR hf (fun _ h => ro_X6_at h)
      dsimp only at hf
      have p_r2 := pc_X6_at h_r2
      dsimp only at p_r2
      rw [hc, h44] at p_r2
      obtain ⟨r3, h_r3, hf⟩ := m_calR hf (fun _ h => ro_X11_isDigit h)
      dsimp only at hf
      have p_r3 := pc_X11_isDigit h_r3
      dsimp only at p_r3
      rw [p_r2] at p_r3
      unfold isD at p_r3
      obtain ⟨k', rfl⟩ : ∃ k', k = k' + 1 := ⟨k - 1, by omega⟩
      rcases m_ifE hf with ⟨c2, hf⟩ | ⟨c2, hf⟩
      · skip
        replace c2 := ti_eqP (a := r3) (b := (0 : Int32)) c2 rfl (show (0 : Int32).toInt = 0 from rfl)
        unfold f_X2_readDigits_67 at hf
        cases hf
        try dsimp only
        rw [dgs_n (fun g => by have := p_r3.2.2 g; omega)]
        exact ⟨rfl, h, hF⟩
      · skip
        replace c2 := ti_eqN (a := r3) (b := (0 : Int32)) c2 rfl (show (0 : Int32).toInt = 0 from rfl)
        obtain ⟨v4, e_v4, hf⟩ := m_bndE hf
        have t_v4 : v4.toInt = 10 * x3.toInt := ti_mul e_v4 (show (10 : Int32).toInt = 10 from rfl) rfl (by omega) (by omega)
        obtain ⟨-, hf⟩ := m_chkE hf
        replace hf := m_calY hf p2
        obtain ⟨-, hf⟩ := m_chkE hf
        obtain ⟨-, hf⟩ := m_chkE hf
        obtain ⟨r6, h_r6, hf⟩ := m_calR hf (fun _ h => ro_X6_at h)
        dsimp only at hf
        have p_r6 := pc_X6_at h_r6
        dsimp only at p_r6
        rw [hc, h44] at p_r6
        have dg := p_r3.2.1 (by omega)
        obtain ⟨v7, e_v7, hf⟩ := m_bndE hf
        have t_v7 : v7.toInt = v4.toInt + r6.toInt := ti_add e_v7 rfl rfl (by omega) (by omega)
        obtain ⟨v8, e_v8, hf⟩ := m_bndE hf
        have t_v8 : v8.toInt = v7.toInt - 48 := ti_sub e_v8 rfl (show (48 : Int32).toInt = 48 from rfl) (by omega) (by omega)
        obtain ⟨-, hf⟩ := m_chkE hf
        obtain ⟨v9, e_v9, hf⟩ := m_bndE hf
        have t_v9 : v9.toInt = (zI S 4 23).toInt + 1 := ti_add e_v9 rfl (show (1 : Int32).toInt = 1 from rfl) (by omega) (by omega)
        obtain ⟨-, hf⟩ := m_chkE hf
        obtain ⟨S10, e_S10, hf⟩ := m_bndE hf
        rw [dgs_y dg]
        have e8 : v8.toInt = 10 * x3.toInt + (ch q - 48) := by omega
        rw [← e8]
        exact ih v8 S10 (q + 1) k' (by omega) (by unfold DB; omega) (by omega) (lw_at h e_S10 (by omega) (by omega)) (fr_t hF (fr_I e_S10)) hf
theorem p_readDigits {k : Nat} (h : LW S ch N p) (hp3 : p ≤ 2900) (hk : k = 3 ∨ k = 4) (h1 : x1.toInt = (k : Int)) (hf : f_X2_readDigits 23 x1 S = some o) : o.1.toInt = (dgs ch k p 0).2 ∧ LW o.2 ch N (dgs ch k p 0).1 ∧ FR (fun a => a = 23) S o.2 := by
  have hf : f_X2_readDigits_0 23 x1 S = some o := hf
  have h4 := h.2.2.2.2
  unfold f_X2_readDigits_0 at hf
  obtain ⟨-, hf⟩ := m_chkE hf
  obtain ⟨v1, e_v1, hf⟩ := m_bndE hf
  have t_v1 : v1.toInt = (zI S 4 23).toInt + x1.toInt := ti_add e_v1 rfl rfl (by omega) (by omega)
  have z : (0 : Int32).toInt = 0 := rfl
  have g := rd_9 (S0 := S) mFuel 0 S p k (by omega) (by unfold DB; omega) (by omega) h fr_0 hf
  rw [z] at g
  exact g
end DGC
/-- points -/
noncomputable def PT (ch : Int → Int) (a b : Int) : Prop := a ≤ b ∧ (∀ j, a ≤ j → j < b → ch j = 46) ∧ ch b ≠ 46
theorem pt_u {ch : Int → Int} {a b c : Int} (h : PT ch a b) (g : PT ch a c) : b = c := by
  obtain ⟨h1, h2, h3⟩ := h
  obtain ⟨g1, g2, g3⟩ := g
  rcases Int.lt_trichotomy b c with l | l | l
  · exact absurd (g2 b h1 l) h3
  · exact l
  · exact absurd (h2 c g1 l) g3
noncomputable def ptk (ch : Int → Int) (p : Int) : Int := @dite _ (∃ b, PT ch p b) (Classical.propDecidable _) (fun h => Classical.choose h) (fun _ => p)
theorem ptk_e {ch : Int → Int} {p b : Int} (h : PT ch p b) : ptk ch p = b := by
  have h2 : ∃ b, PT ch p b := ⟨b, h⟩
  unfold ptk
  rw [dif_pos h2]
  exact pt_u (Classical.choose_spec h2) h
/-- a move's number, if one stands there -/
noncomputable def nuP (ch : Int → Int) (due p : Int) : Option Int := if 48 ≤ ch p ∧ ch p ≤ 57 then (if (dgs ch 4 p 0).2 = due then some (blk ch (ptk ch (dgs ch 4 p 0).1)) else none) else some p
section NUC
variable {S0 S S' : ZS} {ch : Int → Int} {N p q a : Int} {o : Int32 × ZS} {x1 x2 x3 : Int32}
theorem rn_11 : ∀ (n : Nat) (S : ZS) (q : Int), (a ≤ q ∧ q ≤ N) → 0 ≤ a → (∀ j, a ≤ j → j < q → ch j = 46) → (0 ≤ x2.toInt ∧ x2.toInt ≤ 10000) → LW S ch N q → FR (fun a => a = 23) S0 S → f_X2_readNumber_11 n 23 x1 x2 x3 S = some o → (o.1.toInt = 0 ∨ o.1.toInt = 1) ∧ (o.1.toInt = 1 ↔ x3.toInt = x1.toInt) ∧ LW o.2 ch N (blk ch (ptk ch a)) ∧ FR (fun a => a = 23) S0 o.2 ∧ blk ch (ptk ch a) ≤ N := by
  intro n
  induction n with
  | zero => intro S q _ _ _ _ _ _ hf; cases hf
  | succ n ih =>
    intro S q haq ha hs h2 h hF hf
    have hf : f_X2_readNumber_11s (f_X2_readNumber_11 n) 23 x1 x2 x3 S = some o := hf
    obtain ⟨hT, ⟨k23, p2, k2⟩, ⟨hc, hN1, hn⟩, hcb, h44, hp⟩ := id h
    have fin : ch q ≠ 46 → f_X2_readNumber_54 23 x1 x2 x3 S = some o → (o.1.toInt = 0 ∨ o.1.toInt = 1) ∧ (o.1.toInt = 1 ↔ x3.toInt = x1.toInt) ∧ LW o.2 ch N (blk ch (ptk ch a)) ∧ FR (fun a => a = 23) S0 o.2 ∧ blk ch (ptk ch a) ≤ N := by
      intro hs2 hf
      have e : ptk ch a = q := ptk_e ⟨haq.1, hs, hs2⟩
      rw [e]
      unfold f_X2_readNumber_54 at hf
      obtain ⟨-, hf⟩ := m_chkE hf
      obtain ⟨⟨r1, S1c⟩, h_r1, hf⟩ := m_calE hf
      dsimp only at hf
      obtain ⟨d1, d2, d3, d4⟩ := lw_bl h h_r1
      dsimp only at d2 d3
      rcases m_ifE hf with ⟨c1, hf⟩ | ⟨c1, hf⟩
      · skip
        replace c1 := ti_eqP (a := x3) (b := x1) c1 rfl rfl
        unfold f_X2_readNumber_73 f_X2_readNumber_78 at hf
        obtain ⟨-, hf⟩ := m_chkE hf
        cases hf
        exact ⟨Or.inr rfl, ⟨fun _ => by omega, fun _ => rfl⟩, d2, fr_t hF d3, by omega⟩
      · skip
        replace c1 := ti_eqN (a := x3) (b := x1) c1 rfl rfl
        obtain ⟨-, hf⟩ := m_chkE hf
        obtain ⟨⟨r2, S2c⟩, h_r2, hf⟩ := m_calE hf
        dsimp only at hf
        obtain ⟨b1, b2, b3⟩ := lw_no (x1 := 7) d2 (by decide) (by omega) h_r2
        dsimp only at b1 b2 b3
        rcases m_ifE hf with ⟨c2, hf⟩ | ⟨c2, hf⟩
        · skip
          replace c2 := ti_eqP (a := r2) (b := (0 : Int32)) c2 rfl (show (0 : Int32).toInt = 0 from rfl)
          unfold f_X2_readNumber_78 at hf
          obtain ⟨-, hf⟩ := m_chkE hf
          cases hf
          exact ⟨Or.inl rfl, ⟨fun e => absurd (show (0 : Int32).toInt = 1 from e) (by decide), fun e => by omega⟩, b2, fr_t hF (fr_t d3 b3), by omega⟩
        · skip
          replace c2 := ti_eqN (a := r2) (b := (0 : Int32)) c2 rfl (show (0 : Int32).toInt = 0 from rfl)
          omega
    unfold f_X2_readNumber_11s at hf
    obtain ⟨-, hf⟩ := m_chkE hf
    obtain ⟨-, hf⟩ := m_chkE hf
    replace hf := m_calY hf p2
    obtain ⟨-, hf⟩ := m_chkE hf
    obtain ⟨r2, h_r2, hf⟩ := m_calR hf (fun _ h => ro_X6_size h)
    dsimp only at hf
    have p_r2 := pc_X6_size h_r2
    dsimp only at p_r2
    have q2 : r2.toInt = N := by rw [p_r2]; exact hN1
    rcases m_ifE hf with ⟨c1, hf⟩ | ⟨c1, hf⟩
    · skip
      replace c1 := ti_leP (a := r2) (b := (zI S 4 23)) c1 rfl rfl
      exact fin (by rw [lw_out h (by omega)]; decide) hf
    · skip
      replace c1 := ti_leN (a := r2) (b := (zI S 4 23)) c1 rfl rfl
      obtain ⟨-, hf⟩ := m_chkE hf
      replace hf := m_calY hf p2
      obtain ⟨-, hf⟩ := m_chkE hf
      obtain ⟨-, hf⟩ := m_chkE hf
      obtain ⟨r4, h_r4, hf⟩ := m_calR hf (fun _ h => ro_X6_at h)
      dsimp only at hf
      have p_r4 := pc_X6_at h_r4
      dsimp only at p_r4
      rw [hc, h44] at p_r4
      rcases m_ifE hf with ⟨c2, hf⟩ | ⟨c2, hf⟩
      · skip
        replace c2 := ti_eqP (a := r4) (b := (46 : Int32)) c2 rfl (show (46 : Int32).toInt = 46 from rfl)
        obtain ⟨-, hf⟩ := m_chkE hf
        obtain ⟨v5, e_v5, hf⟩ := m_bndE hf
        have t_v5 : v5.toInt = (zI S 4 23).toInt + 1 := ti_add e_v5 rfl (show (1 : Int32).toInt = 1 from rfl) (by omega) (by omega)
        obtain ⟨-, hf⟩ := m_chkE hf
        obtain ⟨S6, e_S6, hf⟩ := m_bndE hf
        refine ih S6 (q + 1) (by omega) ha (fun j j0 j1 => ?_) h2 (lw_at h e_S6 (by omega) (by omega)) (fr_t hF (fr_I e_S6)) hf
        by_cases e : j = q
        · rw [e]; omega
        · exact hs j j0 (by omega)
      · skip
        replace c2 := ti_eqN (a := r4) (b := (46 : Int32)) c2 rfl (show (46 : Int32).toInt = 46 from rfl)
        exact fin (by omega) hf
/-- the class reads a move's number -/
theorem p_readNumber (h : LW S ch N p) (hpN : p ≤ N) (hd : 48 ≤ ch p ∧ ch p ≤ 57) (hf : f_X2_readNumber 23 x1 S = some o) : (o.1.toInt = 1 ∧ ∃ e, nuP ch x1.toInt p = some e ∧ LW o.2 ch N e ∧ FR (fun a => a = 23) S o.2 ∧ e ≤ N) ∨ (o.1.toInt = 0 ∧ nuP ch x1.toInt p = none ∧ (∃ p', LW o.2 ch N p') ∧ FR (fun a => a = 23) S o.2) := by
  have hf : f_X2_readNumber_0 23 x1 S = some o := hf
  have h4 := h.2.2.2.2
  have hn := h.2.2.1.2.2
  have out : ∀ i, N ≤ i → ch i = 0 := fun i hi => lw_out h hi
  unfold f_X2_readNumber_0 at hf
  obtain ⟨-, hf⟩ := m_chkE hf
  obtain ⟨-, hf⟩ := m_chkE hf
  obtain ⟨⟨r1, S1c⟩, h_r1, hf⟩ := m_calE hf
  dsimp only at hf
  obtain ⟨d1, d2, d3⟩ := p_readDigits (k := 4) h (by omega) (Or.inr rfl) rfl h_r1
  dsimp only at d1 d2 d3
  have dN := dgs_N out 4 p 0 hpN
  have db := dgs_b (ch := ch) 4 p 0
  obtain ⟨g1, g2, g3, g4, g5⟩ := rn_11 (S0 := S) (a := (dgs ch 4 p 0).1) mFuel S1c _ ⟨Int.le_refl _, dN⟩ (by omega) (fun j j0 j1 => by omega) (by omega) d2 d3 hf
  unfold nuP
  rw [if_pos hd]
  rw [d1] at g2
  by_cases e : (dgs ch 4 p 0).2 = x1.toInt
  · rw [if_pos e]
    exact Or.inl ⟨g2.2 e, _, rfl, g3, g4, g5⟩
  · rw [if_neg e]
    exact Or.inr ⟨g1.resolve_right (fun c => e (g2.1 c)), rfl, ⟨_, g3⟩, g4⟩
end NUC
noncomputable def isSg (c : Int) : Prop := isL c ∨ isD c ∨ c = 61 ∨ c = 45 ∨ c = 43 ∨ c = 35
/-- a row of signs -/
noncomputable def SGr (ch : Int → Int) (a b : Int) : Prop := a ≤ b ∧ (∀ j, a ≤ j → j < b → isSg (ch j)) ∧ ¬ isSg (ch b)
theorem sg_u {ch : Int → Int} {a b c : Int} (h : SGr ch a b) (g : SGr ch a c) : b = c := by
  obtain ⟨h1, h2, h3⟩ := h
  obtain ⟨g1, g2, g3⟩ := g
  rcases Int.lt_trichotomy b c with l | l | l
  · exact absurd (g2 b h1 l) h3
  · exact l
  · exact absurd (h2 c g1 l) g3
noncomputable def sgk (ch : Int → Int) (p : Int) : Int := @dite _ (∃ b, SGr ch p b) (Classical.propDecidable _) (fun h => Classical.choose h) (fun _ => p)
theorem sgk_e {ch : Int → Int} {p b : Int} (h : SGr ch p b) : sgk ch p = b := by
  have h2 : ∃ b, SGr ch p b := ⟨b, h⟩
  unfold sgk
  rw [dif_pos h2]
  exact sg_u (Classical.choose_spec h2) h
section SGC
variable {S0 S S' : ZS} {ch : Int → Int} {N p q a : Int} {o : Int32 × ZS}
theorem sk_0 : ∀ (n : Nat) (S : ZS) (q : Int), (a ≤ q ∧ q ≤ N) → 0 ≤ a → (∀ j, a ≤ j → j < q → isSg (ch j)) → LW S ch N q → FR (fun a => a = 23) S0 S → f_X2_skipSigns_0 n 23 S = some o → ∃ e, SGr ch a e ∧ LW o.2 ch N e ∧ FR (fun a => a = 23) S0 o.2 ∧ e ≤ N := by
  intro n
  induction n with
  | zero => intro S q _ _ _ _ _ hf; cases hf
  | succ n ih =>
    intro S q haq ha hs h hF hf
    have hf : f_X2_skipSigns_0s (f_X2_skipSigns_0 n) 23 S = some o := hf
    obtain ⟨hT, ⟨k23, p2, k2⟩, ⟨hc, hN1, hn⟩, hcb, h44, hp⟩ := id h
    unfold f_X2_skipSigns_0s at hf
    obtain ⟨-, hf⟩ := m_chkE hf
    obtain ⟨-, hf⟩ := m_chkE hf
    replace hf := m_calY hf p2
    obtain ⟨-, hf⟩ := m_chkE hf
    obtain ⟨r2, h_r2, hf⟩ := m_calR hf (fun _ h => ro_X6_size h)
    dsimp only at hf
    have p_r2 := pc_X6_size h_r2
    dsimp only at p_r2
    have q2 : r2.toInt = N := by rw [p_r2]; exact hN1
    rcases m_ifE hf with ⟨c1, hf⟩ | ⟨c1, hf⟩
    · skip
      replace c1 := ti_leP (a := r2) (b := (zI S 4 23)) c1 rfl rfl
      unfold f_X2_skipSigns_44 at hf
      cases hf
      try dsimp only
      refine ⟨q, ⟨haq.1, hs, ?_⟩, h, hF, haq.2⟩
      rw [lw_out h (by omega)]
      unfold isSg isL isD; omega
    · skip
      replace c1 := ti_leN (a := r2) (b := (zI S 4 23)) c1 rfl rfl
      obtain ⟨-, hf⟩ := m_chkE hf
      replace hf := m_calY hf p2
      obtain ⟨-, hf⟩ := m_chkE hf
      obtain ⟨-, hf⟩ := m_chkE hf
      obtain ⟨r4, h_r4, hf⟩ := m_calR hf (fun _ h => ro_X6_at h)
      dsimp only at hf
      have p_r4 := pc_X6_at h_r4
      dsimp only at p_r4
      rw [hc, h44] at p_r4
      obtain ⟨r5, h_r5, hf⟩ := m_calR hf (fun _ h => ro_X2_isSign h)
      dsimp only at hf
      have p_r5 := pc_X2_isSign h_r5
      dsimp only at p_r5
      rw [p_r4] at p_r5
      rcases m_ifE hf with ⟨c2, hf⟩ | ⟨c2, hf⟩
      · skip
        replace c2 := ti_eqP (a := r5) (b := (0 : Int32)) c2 rfl (show (0 : Int32).toInt = 0 from rfl)
        unfold f_X2_skipSigns_44 at hf
        cases hf
        try dsimp only
        exact ⟨q, ⟨haq.1, hs, fun g => by have := p_r5.2.2 g; omega⟩, h, hF, haq.2⟩
      · skip
        replace c2 := ti_eqN (a := r5) (b := (0 : Int32)) c2 rfl (show (0 : Int32).toInt = 0 from rfl)
        obtain ⟨-, hf⟩ := m_chkE hf
        obtain ⟨v6, e_v6, hf⟩ := m_bndE hf
        have t_v6 : v6.toInt = (zI S 4 23).toInt + 1 := ti_add e_v6 rfl (show (1 : Int32).toInt = 1 from rfl) (by omega) (by omega)
        obtain ⟨-, hf⟩ := m_chkE hf
        obtain ⟨S7, e_S7, hf⟩ := m_bndE hf
        refine ih S7 (q + 1) (by omega) ha (fun j j0 j1 => ?_) (lw_at h e_S7 (by omega) (by omega)) (fr_t hF (fr_I e_S7)) hf
        by_cases e : j = q
        · rw [e]; exact p_r5.2.1 (by omega)
        · exact hs j j0 (by omega)
theorem p_skipSigns (h : LW S ch N p) (hpN : p ≤ N) (hf : f_X2_skipSigns 23 S = some o) : SGr ch p (sgk ch p) ∧ LW o.2 ch N (sgk ch p) ∧ FR (fun a => a = 23) S o.2 ∧ sgk ch p ≤ N := by
  obtain ⟨e, g1, g2⟩ := sk_0 (S0 := S) mFuel S p ⟨Int.le_refl _, hpN⟩ h.2.2.2.2.2.1 (fun j j0 j1 => by omega) h fr_0 hf
  rw [sgk_e g1]
  exact ⟨g1, g2⟩
end SGC
end
section
/-- marks in one number, a byte each -/
noncomputable def pkA : Nat → Int32 → List Int → Int32
  | _, a, [] => a
  | i, a, m :: l => pkA (i + 1) (a ||| (Int32.ofInt m <<< (Int32.ofInt (8 * (i : Int)) &&& 31))) l
theorem pkA_app {m : Int} : ∀ (l : List Int) (i : Nat) (a : Int32), pkA i a (l ++ [m]) = pkA i a l ||| (Int32.ofInt m <<< (Int32.ofInt (8 * ((i + l.length : Nat) : Int)) &&& 31))
  | [], i, a => rfl
  | b :: l, i, a => by
    show pkA (i + 1) _ (l ++ [m]) = pkA (i + 1) _ l ||| _
    rw [pkA_app l (i + 1)]
    have : i + 1 + l.length = i + (b :: l).length := by
      show i + 1 + l.length = i + (l.length + 1)
      omega
    rw [this]
noncomputable def pkL (l : List Int) : Int32 := pkA 0 0 l
/-- the marks of the class's node x -/
noncomputable def NMk (S : ZS) (x : Nat) (K : List Int) : Prop := (zI S 4 x).toInt = (K.length : Int) ∧ zI S 5 x = pkL K
/-- marks with $ from p on (behind blanks) -/
noncomputable def mdP (ch : Int → Int) : Nat → Int → List Int → Option (Int × List Int)
  | 0, _, _ => none
  | k + 1, p, K => if ch p = 36 then (if (dgs ch 3 (p + 1) 0).1 = p + 1 ∨ (48 ≤ ch (dgs ch 3 (p + 1) 0).1 ∧ ch (dgs ch 3 (p + 1) 0).1 ≤ 57) ∨ 255 < (dgs ch 3 (p + 1) 0).2 ∨ K.length = 4 then none else mdP ch k (blk ch (dgs ch 3 (p + 1) 0).1) (K ++ [(dgs ch 3 (p + 1) 0).2])) else some (p, K)
noncomputable def bdM (ch : Int → Int) (p : Int) (K : List Int) : Prop := (dgs ch 3 (p + 1) 0).1 = p + 1 ∨ (48 ≤ ch (dgs ch 3 (p + 1) 0).1 ∧ ch (dgs ch 3 (p + 1) 0).1 ≤ 57) ∨ 255 < (dgs ch 3 (p + 1) 0).2 ∨ K.length = 4
theorem md_0 {ch : Int → Int} {k : Nat} {p : Int} {K : List Int} (h : ch p ≠ 36) : mdP ch (k + 1) p K = some (p, K) := if_neg h
theorem md_n {ch : Int → Int} {k : Nat} {p : Int} {K : List Int} (h : ch p = 36) (g : bdM ch p K) : mdP ch (k + 1) p K = none := by
  show (if ch p = 36 then (if _ then none else _) else _) = _
  rw [if_pos h]; exact if_pos g
theorem md_s {ch : Int → Int} {k : Nat} {p : Int} {K : List Int} (h : ch p = 36) (g : ¬ bdM ch p K) : mdP ch (k + 1) p K = mdP ch k (blk ch (dgs ch 3 (p + 1) 0).1) (K ++ [(dgs ch 3 (p + 1) 0).2]) := by
  show (if ch p = 36 then (if _ then none else mdP ch k (blk ch (dgs ch 3 (p + 1) 0).1) (K ++ [(dgs ch 3 (p + 1) 0).2])) else _) = _
  rw [if_pos h]; exact if_neg g
/-- all marks of a move that ends at p -/
noncomputable def mkP (ch : Int → Int) (p : Int) : Option (Int × List Int) := if shM (ch (blk ch p)) (ch (blk ch p + 1)) ≤ 0 then mdP ch 2001 (blk ch p) [] else mdP ch 2001 (blk ch (blk ch p + (if shM (ch (blk ch p)) (ch (blk ch p + 1)) ≤ 2 then 1 else 2))) [shM (ch (blk ch p)) (ch (blk ch p + 1))]
theorem shM_b (c t : Int) : (shM c t = 0 ∧ c ≠ 33 ∧ c ≠ 63) ∨ (1 ≤ shM c t ∧ shM c t ≤ 6 ∧ (c = 33 ∨ c = 63) ∧ (3 ≤ shM c t → t = 33 ∨ t = 63)) := by
  unfold shM
  split
  · split
    · omega
    · split <;> omega
  · split
    · split
      · omega
      · split <;> omega
    · omega
section MKC
variable {S0 S S' : ZS} {x0 x1 : Nat} {ch : Int → Int} {N p q : Int} {K : List Int} {o : Int32 × ZS} {x2 x3 m : Int32}
/-- links of a node that stay -/
noncomputable def LKs (S S' : ZS) (x : Nat) : Prop := ∀ j, j ≠ 4 → j ≠ 5 → zI S' j x = zI S j x
theorem p_putMark (hT : ZT S) (hk : zK S x0 = 4) (h : NMk S x0 K) (hl : (K.length : Int) ≤ 3) (hf : f_X4_putMark x0 m S = some o) : ZT o.2 ∧ NMk o.2 x0 (K ++ [m.toInt]) ∧ FR (fun a => a = x0) S o.2 ∧ LKs S o.2 x0 := by
  have T2 : ZT o.2 := (ok_of (t_f_X4_putMark (SZ := S) hT (a7_0 S) hk (by rw [h.1]; exact hl)) hf).1
  have hf : f_X4_putMark_0 x0 m S = some o := hf
  obtain ⟨h4, h5⟩ := h
  unfold f_X4_putMark_0 at hf
  obtain ⟨-, hf⟩ := m_chkE hf
  obtain ⟨-, hf⟩ := m_chkE hf
  obtain ⟨v1, e_v1, hf⟩ := m_bndE hf
  have t_v1 : v1.toInt = 8 * (zI S 4 x0).toInt := ti_mul e_v1 (show (8 : Int32).toInt = 8 from rfl) rfl (by omega) (by omega)
  obtain ⟨v2, e_v2, hf⟩ := m_bndE hf
  obtain ⟨v3, e_v3, hf⟩ := m_bndE hf
  obtain ⟨-, hf⟩ := m_chkE hf
  obtain ⟨S4, e_S4, hf⟩ := m_bndE hf
  have t14 : (zI S4 4 x0).toInt = (K.length : Int) := by rw [e_S4, zI_j (by decide)]; exact h4
  obtain ⟨-, hf⟩ := m_chkE hf
  obtain ⟨v5, e_v5, hf⟩ := m_bndE hf
  have t_v5 : v5.toInt = (zI S4 4 x0).toInt + 1 := ti_add e_v5 rfl (show (1 : Int32).toInt = 1 from rfl) (by omega) (by omega)
  obtain ⟨-, hf⟩ := m_chkE hf
  obtain ⟨S6, e_S6, hf⟩ := m_bndE hf
  cases hf
  try dsimp only
  have F : FR (fun a => a = x0) S S6 := fr_t (fr_I e_S4) (fr_I e_S6)
  refine ⟨T2, ⟨?_, ?_⟩, F, fun j j4 j5 => by rw [e_S6, zI_j j4, e_S4, zI_j j5]⟩
  · rw [e_S6, zI_self, List.length_append]
    have : ([m.toInt] : List Int).length = 1 := rfl
    omega
  · rw [e_S6, zI_j (by decide), e_S4, zI_self]
    unfold pkL
    rw [pkA_app, e_v3, e_v2, h5]
    have e1 : v1 = Int32.ofInt (8 * ((0 + K.length : Nat) : Int)) := i32_of (by omega)
    have e2 : m = Int32.ofInt m.toInt := i32_of rfl
    rw [e1, ← e2]
    rfl
theorem nk_23 (h : LW S ch N p) (hk : zK S x1 = 4) : x1 ≠ 23 ∧ x1 ≠ 2 := by
  obtain ⟨-, ⟨k23, -, k2⟩, -⟩ := h
  exact ⟨fun e => by rw [e, k23] at hk; exact absurd hk (by decide), fun e => by rw [e, k2] at hk; exact absurd hk (by decide)⟩
theorem lw_nd {W : Nat → Prop} (h : LW S ch N p) (hT : ZT S') (hF : FR W S S') (h2 : ¬ W 2) (h23 : ¬ W 23) : LW S' ch N p := lw_fr h hT hF h2 (by rw [(fr_e hF (by rw [h.2.1.1]; decide) h23).2.2.1]; exact h.2.2.2.2.1) h.2.2.2.2.2
/-- one mark with $ -/
theorem p_readMark (h : LW S ch N p) (hpN : p < N) (hk : zK S x1 = 4) (hm : NMk S x1 K) (hl : (K.length : Int) ≤ 4) (hf : f_X2_readMark 23 x1 S = some o) : (o.1.toInt = 1 ∧ ¬ bdM ch p K ∧ LW o.2 ch N (dgs ch 3 (p + 1) 0).1 ∧ FR (fun a => a = 23 ∨ a = x1) S o.2 ∧ NMk o.2 x1 (K ++ [(dgs ch 3 (p + 1) 0).2]) ∧ LKs S o.2 x1) ∨ (o.1.toInt = 0 ∧ bdM ch p K ∧ (∃ p', LW o.2 ch N p') ∧ FR (fun a => a = 23 ∨ a = x1) S o.2 ∧ LKs S o.2 x1) := by
  have hf : f_X2_readMark_0 23 x1 S = some o := hf
  have h4 := h.2.2.2.2
  have hn := h.2.2.1.2.2
  obtain ⟨n23, n2⟩ := nk_23 h hk
  unfold f_X2_readMark_0 at hf
  obtain ⟨-, hf⟩ := m_chkE hf
  obtain ⟨-, hf⟩ := m_chkE hf
  obtain ⟨v1, e_v1, hf⟩ := m_bndE hf
  have t_v1 : v1.toInt = (zI S 4 23).toInt + 1 := ti_add e_v1 rfl (show (1 : Int32).toInt = 1 from rfl) (by omega) (by omega)
  obtain ⟨-, hf⟩ := m_chkE hf
  obtain ⟨S2, e_S2, hf⟩ := m_bndE hf
  have L2 : LW S2 ch N (p + 1) := lw_at h e_S2 (by omega) (by omega)
  obtain ⟨-, hf⟩ := m_chkE hf
  obtain ⟨⟨r3, S3c⟩, h_r3, hf⟩ := m_calE hf
  dsimp only at hf
  obtain ⟨d1, d2, d3⟩ := p_readDigits (k := 3) L2 (by omega) (Or.inl rfl) rfl h_r3
  dsimp only at d1 d2 d3
  have db := dgs_b (ch := ch) 3 (p + 1) 0
  have dv := dgs_v (ch := ch) 3 (p + 1) 0 (by unfold DB; omega)
  have F3 : FR (fun a => a = 23) S S3c := fr_t (fr_I e_S2) d3
  have ex := fr_e F3 (show zK S x1 < 18 by rw [hk]; decide) n23
  have m3 : NMk S3c x1 K := ⟨by rw [ex.2.2.1]; exact hm.1, by rw [ex.2.2.1]; exact hm.2⟩
  obtain ⟨T3, ⟨-, p23, k2⟩, ⟨hc, hN1, -⟩, hcb, h344, hp3⟩ := id d2
  have m31 := m3.1
  have hk3 := ex.1.trans hk
  have bad : ∀ (S9 : ZS), LW S9 ch N (dgs ch 3 (p + 1) 0).1 → FR (fun a => a = 23) S3c S9 → (∃ p', LW S9 ch N p') ∧ FR (fun a => a = 23 ∨ a = x1) S S9 ∧ LKs S S9 x1 := fun S9 L9 F9 => ⟨⟨_, L9⟩, fr_m (fr_t F3 F9) (fun a _ e => Or.inl e), fun j _ _ => by rw [(fr_e F9 (by rw [hk3]; decide) n23).2.2.1, ex.2.2.1]⟩
  obtain ⟨-, hf⟩ := m_chkE hf
  obtain ⟨v4, e_v4, hf⟩ := m_bndE hf
  have t_v4 : v4.toInt = (zI S 4 23).toInt + 1 := ti_add e_v4 rfl (show (1 : Int32).toInt = 1 from rfl) (by omega) (by omega)
  rcases m_ifE hf with ⟨c1, hf⟩ | ⟨c1, hf⟩
  · skip
    replace c1 := ti_eqP (a := (zI S3c 4 23)) (b := v4) c1 rfl rfl
    obtain ⟨-, hf⟩ := m_chkE hf
    obtain ⟨-, hf⟩ := m_chkE hf
    obtain ⟨⟨r10, S10c⟩, h_r10, hf⟩ := m_calE hf
    dsimp only at hf
    obtain ⟨b1, b2, b3⟩ := lw_no (x1 := 1) d2 (by decide) (by omega) h_r10
    dsimp only at b1 b2 b3
    obtain ⟨-, hf⟩ := m_chkE hf
    cases hf
    try dsimp only
    exact Or.inr ⟨b1, Or.inl (by omega), bad _ b2 b3⟩
  · skip
    replace c1 := ti_eqN (a := (zI S3c 4 23)) (b := v4) c1 rfl rfl
    rcases m_ifE hf with ⟨c2, hf⟩ | ⟨c2, hf⟩
    · skip
      replace c2 := ti_ltP (a := (255 : Int32)) (b := r3) c2 (show (255 : Int32).toInt = 255 from rfl) rfl
      unfold f_X2_readMark_56 at hf
      obtain ⟨-, hf⟩ := m_chkE hf
      obtain ⟨⟨r9, S9⟩, h_r9, hf⟩ := m_calE hf
      dsimp only at hf
      obtain ⟨-, hf⟩ := m_chkE hf
      cases hf
      obtain ⟨b1, b2, b3⟩ := lw_no (x1 := 8) d2 (by decide) (by omega) h_r9
      exact Or.inr ⟨b1, Or.inr (Or.inr (Or.inl (by omega))), bad _ b2 b3⟩
    · skip
      replace c2 := ti_ltN (a := (255 : Int32)) (b := r3) c2 (show (255 : Int32).toInt = 255 from rfl) rfl
      obtain ⟨-, hf⟩ := m_chkE hf
      rcases m_ifE hf with ⟨c3, hf⟩ | ⟨c3, hf⟩
      · skip
        replace c3 := ti_ltP (a := (zI S3c 4 x1)) (b := (4 : Int32)) c3 rfl (show (4 : Int32).toInt = 4 from rfl)
        obtain ⟨-, hf⟩ := m_chkE hf
        replace hf := m_calY hf p23
        obtain ⟨-, hf⟩ := m_chkE hf
        obtain ⟨-, hf⟩ := m_chkE hf
        obtain ⟨r6, h_r6, hf⟩ := m_calR hf (fun _ h => ro_X6_at h)
        dsimp only at hf
        have p_r6 := pc_X6_at h_r6
        dsimp only at p_r6
        rw [hc, h344] at p_r6
        obtain ⟨r7, h_r7, hf⟩ := m_calR hf (fun _ h => ro_X11_isDigit h)
        dsimp only at hf
        have p_r7 := pc_X11_isDigit h_r7
        dsimp only at p_r7
        rw [p_r6] at p_r7
        unfold isD at p_r7
        rcases m_ifE hf with ⟨c4, hf⟩ | ⟨c4, hf⟩
        · skip
          replace c4 := ti_eqP (a := r7) (b := (0 : Int32)) c4 rfl (show (0 : Int32).toInt = 0 from rfl)
          obtain ⟨-, hf⟩ := m_chkE hf
          obtain ⟨⟨r8, S8c⟩, h_r8, hf⟩ := m_calE hf
          dsimp only at hf
          obtain ⟨a1, a2, a3, a4⟩ := p_putMark T3 hk3 m3 (by omega) h_r8
          dsimp only at a1 a2 a3 a4
          rw [d1] at a2
          obtain ⟨-, hf⟩ := m_chkE hf
          cases hf
          try dsimp only
          refine Or.inl ⟨rfl, ?_, lw_nd d2 a1 a3 (fun e => n2 e.symm) (fun e => n23 e.symm), fr_t (fr_m F3 (fun a _ e => Or.inl e)) (fr_m a3 (fun a _ e => Or.inr e)), a2, fun j j4 j5 => (a4 j j4 j5).trans (ex.2.2.1 j)⟩
          rintro (g | g | g | g)
          · omega
          · have := p_r7.2.2 g; omega
          · omega
          · omega
        · skip
          replace c4 := ti_eqN (a := r7) (b := (0 : Int32)) c4 rfl (show (0 : Int32).toInt = 0 from rfl)
          obtain ⟨-, hf⟩ := m_chkE hf
          obtain ⟨-, hf⟩ := m_chkE hf
          obtain ⟨⟨r9, S9c⟩, h_r9, hf⟩ := m_calE hf
          dsimp only at hf
          obtain ⟨b1, b2, b3⟩ := lw_no (x1 := 1) d2 (by decide) (by omega) h_r9
          dsimp only at b1 b2 b3
          obtain ⟨-, hf⟩ := m_chkE hf
          cases hf
          try dsimp only
          exact Or.inr ⟨b1, Or.inr (Or.inl (p_r7.2.1 (by omega))), bad _ b2 b3⟩
      · skip
        replace c3 := ti_ltN (a := (zI S3c 4 x1)) (b := (4 : Int32)) c3 rfl (show (4 : Int32).toInt = 4 from rfl)
        unfold f_X2_readMark_56 at hf
        obtain ⟨-, hf⟩ := m_chkE hf
        obtain ⟨⟨r9, S9⟩, h_r9, hf⟩ := m_calE hf
        dsimp only at hf
        obtain ⟨-, hf⟩ := m_chkE hf
        cases hf
        obtain ⟨b1, b2, b3⟩ := lw_no (x1 := 8) d2 (by decide) (by omega) h_r9
        exact Or.inr ⟨b1, Or.inr (Or.inr (Or.inr (by omega))), bad _ b2 b3⟩
/-- how the marks end, by the class -/
noncomputable def MKo (S : ZS) (x1 : Nat) (ch : Int → Int) (N : Int) (z : Option (Int × List Int)) (o : Int32 × ZS) : Prop := (∃ e K, z = some (e, K) ∧ o.1.toInt = 1 ∧ (K.length : Int) ≤ 4 ∧ e ≤ N ∧ LW o.2 ch N e ∧ FR (fun a => a = 23 ∨ a = x1) S o.2 ∧ NMk o.2 x1 K ∧ LKs S o.2 x1) ∨ (z = none ∧ o.1.toInt = 0 ∧ (∃ p', LW o.2 ch N p') ∧ FR (fun a => a = 23 ∨ a = x1) S o.2 ∧ LKs S o.2 x1)
theorem mk_69 : ∀ (n : Nat) (x3 x4 : Int32) (S : ZS) (p : Int) (K : List Int) (k : Nat), x3.toInt = 1 → (0 ≤ x4.toInt ∧ x4.toInt ≤ p) → N < p + (k : Int) → 1 ≤ k → p ≤ N → LW S ch N p → FR (fun a => a = 23 ∨ a = x1) S0 S → zK S x1 = 4 → NMk S x1 K → (K.length : Int) ≤ 4 → LKs S0 S x1 → f_X2_readMarks_69 n 23 x1 x3 x4 S = some o → MKo S0 x1 ch N (mdP ch k p K) o := by
  intro n
  induction n with
  | zero => intro x3 x4 S p K k _ _ _ _ _ _ _ _ _ _ _ hf; cases hf
  | succ n ih =>
    intro x3 x4 S p K k h3 h4 hk hk1 hpN h hF hx hm hl hL hf
    have hf : f_X2_readMarks_69s (f_X2_readMarks_69 n) 23 x1 x3 x4 S = some o := hf
    obtain ⟨k', rfl⟩ : ∃ k', k = k' + 1 := ⟨k - 1, by omega⟩
    obtain ⟨hT, ⟨k23, p2, k2⟩, ⟨hc, hN1, hn⟩, hcb, h44, hp⟩ := id h
    have stop : ch p ≠ 36 → f_X2_readMarks_113 x3 S = some o → MKo S0 x1 ch N (mdP ch (k' + 1) p K) o := by
      intro hs hf
      unfold f_X2_readMarks_113 at hf
      obtain ⟨-, hf⟩ := m_chkE hf
      cases hf
      exact Or.inl ⟨p, K, md_0 hs, h3, hl, hpN, h, hF, hm, hL⟩
    unfold f_X2_readMarks_69s at hf
    rcases m_ifE hf with ⟨c1, hf⟩ | ⟨c1, hf⟩
    · skip
      replace c1 := ti_leP (a := (2000 : Int32)) (b := x4) c1 (show (2000 : Int32).toInt = 2000 from rfl) rfl
      exact stop (by rw [lw_out h (by omega)]; decide) hf
    · skip
      replace c1 := ti_leN (a := (2000 : Int32)) (b := x4) c1 (show (2000 : Int32).toInt = 2000 from rfl) rfl
      rcases m_ifE hf with ⟨c2, hf⟩ | ⟨c2, hf⟩
      · skip
        replace c2 := ti_eqP (a := x3) (b := (0 : Int32)) c2 rfl (show (0 : Int32).toInt = 0 from rfl)
        omega
      · skip
        replace c2 := ti_eqN (a := x3) (b := (0 : Int32)) c2 rfl (show (0 : Int32).toInt = 0 from rfl)
        obtain ⟨-, hf⟩ := m_chkE hf
        replace hf := m_calY hf p2
        obtain ⟨-, hf⟩ := m_chkE hf
        obtain ⟨-, hf⟩ := m_chkE hf
        obtain ⟨r2, h_r2, hf⟩ := m_calR hf (fun _ h => ro_X6_at h)
        dsimp only at hf
        have p_r2 := pc_X6_at h_r2
        dsimp only at p_r2
        rw [hc, h44] at p_r2
        rcases m_ifE hf with ⟨c3, hf⟩ | ⟨c3, hf⟩
        · skip
          replace c3 := ti_eqP (a := r2) (b := (36 : Int32)) c3 rfl (show (36 : Int32).toInt = 36 from rfl)
          obtain ⟨-, hf⟩ := m_chkE hf
          obtain ⟨⟨r3, S3c⟩, h_r3, hf⟩ := m_calE hf
          dsimp only at hf
          have c36 : ch p = 36 := by omega
          have pN : p < N := by
            by_cases e : p < N
            · exact e
            · have := lw_out h (show N ≤ p by omega); omega
          have g3 := p_readMark h pN hx hm hl h_r3
          dsimp only at g3
          have db := dgs_b (ch := ch) 3 (p + 1) 0
          have dN := dgs_N (ch := ch) (N := N) (fun i hi => lw_out h hi) 3 (p + 1) 0 (by omega)
          obtain ⟨-, hf⟩ := m_chkE hf
          obtain ⟨⟨r4, S4c⟩, h_r4, hf⟩ := m_calE hf
          dsimp only at hf
          obtain ⟨v5, e_v5, hf⟩ := m_bndE hf
          have t_v5 : v5.toInt = x4.toInt + 1 := ti_add e_v5 rfl (show (1 : Int32).toInt = 1 from rfl) (by omega) (by omega)
          rcases g3 with ⟨a1, a2, a3, a4, a5, a6⟩ | ⟨a1, a2, ⟨p', a3⟩, a4, a5⟩
          · rw [md_s c36 a2]
            obtain ⟨d1, d2, d3, d4⟩ := lw_bl a3 h_r4
            dsimp only at d2 d3
            have bge := d1.1
            obtain ⟨n23, n2⟩ := nk_23 h hx
            have hx3 : zK S3c x1 = 4 := (fr_k a4 (by rw [hx]; decide)).trans hx
            have ex := fr_e d3 (show zK S3c x1 < 18 by rw [hx3]; decide) n23
            refine ih r3 v5 S4c _ _ k' a1 (by omega) (by omega) (by omega) (by omega) d2 (fr_t hF (fr_t a4 (fr_m d3 (fun a _ e => Or.inl e)))) (ex.1.trans hx3) ⟨by rw [ex.2.2.1]; exact a5.1, by rw [ex.2.2.1]; exact a5.2⟩ ?_ (fun j j4 j5 => by rw [ex.2.2.1, a6 j j4 j5, hL j j4 j5]) hf
            rw [List.length_append]
            have : ([(dgs ch 3 (p + 1) 0).2] : List Int).length = 1 := rfl
            have : K.length ≠ 4 := fun e => a2 (Or.inr (Or.inr (Or.inr e)))
            omega
          · rw [md_n c36 a2]
            refine Or.inr ⟨rfl, ?_⟩
            obtain ⟨-, d2, d3, -⟩ := lw_bl a3 h_r4
            dsimp only at d2 d3
            obtain ⟨n23, n2⟩ := nk_23 h hx
            have hx3 : zK S3c x1 = 4 := (fr_k a4 (by rw [hx]; decide)).trans hx
            have fin : (∃ p', LW S4c ch N p') ∧ FR (fun a => a = 23 ∨ a = x1) S0 S4c ∧ LKs S0 S4c x1 := ⟨⟨_, d2⟩, fr_t hF (fr_t a4 (fr_m d3 (fun a _ e => Or.inl e))), fun j j4 j5 => by rw [(fr_e d3 (by rw [hx3]; decide) n23).2.2.1, a5 j j4 j5, hL j j4 j5]⟩
            cases n with
            | zero => cases hf
            | succ n =>
              have hf : f_X2_readMarks_69s (f_X2_readMarks_69 n) 23 x1 r3 v5 S4c = some o := hf
              unfold f_X2_readMarks_69s f_X2_readMarks_113 at hf
              rcases m_ifE hf with ⟨-, hf⟩ | ⟨-, hf⟩
              · obtain ⟨-, hf⟩ := m_chkE hf
                cases hf
                exact ⟨a1, fin⟩
              · rcases m_ifE hf with ⟨-, hf⟩ | ⟨cz, hf⟩
                · obtain ⟨-, hf⟩ := m_chkE hf
                  cases hf
                  exact ⟨a1, fin⟩
                · exact absurd (Int32.toInt_inj.1 a1) cz
        · skip
          replace c3 := ti_eqN (a := r2) (b := (36 : Int32)) c3 rfl (show (36 : Int32).toInt = 36 from rfl)
          exact stop (by omega) hf
/-- the class reads marks -/
theorem p_readMarks (h : LW S ch N p) (hpN : p ≤ N) (hk : zK S x1 = 4) (hm : NMk S x1 []) (hf : f_X2_readMarks 23 x1 S = some o) : MKo S x1 ch N (mkP ch p) o := by
  have hf : f_X2_readMarks_0 23 x1 S = some o := hf
  obtain ⟨n23, n2⟩ := nk_23 h hk
  have hn := h.2.2.1.2.2
  have z0 : (0 : Int32).toInt = 0 := rfl
  unfold mkP
  unfold f_X2_readMarks_0 at hf
  obtain ⟨-, hf⟩ := m_chkE hf
  obtain ⟨⟨r1, S1c⟩, h_r1, hf⟩ := m_calE hf
  dsimp only at hf
  obtain ⟨d1, d2, d3, d4⟩ := lw_bl h h_r1
  dsimp only at d2 d3
  obtain ⟨T1, ⟨k23, p2, k2⟩, ⟨hc, hN1, -⟩, hcb, h44, hp1⟩ := id d2
  have ex := fr_e d3 (show zK S x1 < 18 by rw [hk]; decide) n23
  have m1 : NMk S1c x1 [] := ⟨by rw [ex.2.2.1]; exact hm.1, by rw [ex.2.2.1]; exact hm.2⟩
  have hk1 := ex.1.trans hk
  obtain ⟨-, hf⟩ := m_chkE hf
  replace hf := m_calY hf p2
  obtain ⟨-, hf⟩ := m_chkE hf
  obtain ⟨-, hf⟩ := m_chkE hf
  obtain ⟨r3, h_r3, hf⟩ := m_calR hf (fun _ h => ro_X6_at h)
  dsimp only at hf
  have p_r3 := pc_X6_at h_r3
  dsimp only at p_r3
  rw [hc, h44] at p_r3
  obtain ⟨-, hf⟩ := m_chkE hf
  replace hf := m_calY hf p2
  obtain ⟨-, hf⟩ := m_chkE hf
  obtain ⟨v5, e_v5, hf⟩ := m_bndE hf
  have t_v5 : v5.toInt = (zI S1c 4 23).toInt + 1 := ti_add e_v5 rfl (show (1 : Int32).toInt = 1 from rfl) (by omega) (by omega)
  obtain ⟨-, hf⟩ := m_chkE hf
  obtain ⟨r6, h_r6, hf⟩ := m_calR hf (fun _ h => ro_X6_at h)
  dsimp only at hf
  have p_r6 := pc_X6_at h_r6
  dsimp only at p_r6
  rw [hc, show v5.toInt = blk ch p + 1 by omega] at p_r6
  obtain ⟨r7, h_r7, hf⟩ := m_calR hf (fun _ h => ro_X2_shortMark h)
  dsimp only at hf
  have p_r7 := pc_X2_shortMark h_r7
  dsimp only at p_r7
  rw [p_r3, p_r6] at p_r7
  rcases m_ifE hf with ⟨c1, hf⟩ | ⟨c1, hf⟩
  · skip
    replace c1 := ti_leP (a := r7) (b := (0 : Int32)) c1 rfl (show (0 : Int32).toInt = 0 from rfl)
    rw [if_pos (by omega)]
    unfold f_X2_readMarks_64 at hf
    exact mk_69 (S0 := S) mFuel 1 0 S1c (blk ch p) [] 2001 rfl (by omega) (by omega) (by decide) (by omega) d2 (fr_m d3 (fun a _ e => Or.inl e)) hk1 m1 (by decide) (fun j _ _ => ex.2.2.1 j) hf
  · skip
    replace c1 := ti_leN (a := r7) (b := (0 : Int32)) c1 rfl (show (0 : Int32).toInt = 0 from rfl)
    obtain ⟨-, hf⟩ := m_chkE hf
    obtain ⟨⟨r8, S8c⟩, h_r8, hf⟩ := m_calE hf
    dsimp only at hf
    have sb := shM_b (ch (blk ch p)) (ch (blk ch p + 1))
    rw [if_neg (show ¬ shM (ch (blk ch p)) (ch (blk ch p + 1)) ≤ 0 by omega)]
    obtain ⟨a1, a2, a3, a4⟩ := p_putMark T1 hk1 m1 (by decide) h_r8
    dsimp only at a1 a2 a3 a4
    rw [p_r7, List.nil_append] at a2
    have L8 := lw_nd d2 a1 a3 (fun e => n2 e.symm) (fun e => n23 e.symm)
    have i84 := L8.2.2.2.2.1
    have blN : blk ch p < N := by
      by_cases e : blk ch p < N
      · exact e
      · have := lw_out h (show N ≤ blk ch p by omega); omega
    have fin : ∀ (t0 : Int32) (d : Int), t0.toInt = d → (d = 1 ∨ (d = 2 ∧ 3 ≤ shM (ch (blk ch p)) (ch (blk ch p + 1)))) → f_X2_readMarks_56 23 x1 t0 (zI S8c 4 23) 23 S8c = some o → MKo S x1 ch N (mdP ch 2001 (blk ch (blk ch p + d)) [shM (ch (blk ch p)) (ch (blk ch p + 1))]) o := by
      intro t0 d ht hd hf
      have blN2 : blk ch p + d ≤ N := by
        rcases hd with e | ⟨e, e2⟩
        · omega
        · by_cases c : blk ch p + 1 < N
          · omega
          · have := lw_out h (show N ≤ blk ch p + 1 by omega)
            omega
      have db : 1 ≤ d ∧ d ≤ 2 := by omega
      unfold f_X2_readMarks_56 at hf
      obtain ⟨v1, e1, hf⟩ := m_bndE hf
      obtain ⟨-, hf⟩ := m_chkE hf
      obtain ⟨S2, e2, hf⟩ := m_bndE hf
      obtain ⟨-, hf⟩ := m_chkE hf
      obtain ⟨⟨r3, S3⟩, h_r3, hf⟩ := m_calE hf
      dsimp only at hf
      have t1 : v1.toInt = (zI S8c 4 23).toInt + t0.toInt := ti_add e1 rfl rfl (by omega) (by omega)
      have L2 : LW S2 ch N (blk ch p + d) := lw_at L8 e2 (by omega) (by omega)
      obtain ⟨f1, f2, f3, f4⟩ := lw_bl L2 h_r3
      dsimp only at f2 f3
      have fge := f1.1
      have F83 : FR (fun a => a = 23) S8c S3 := fr_t (fr_I e2) f3
      have hk8 : zK S8c x1 = 4 := (fr_k a3 (by rw [hk1]; decide)).trans hk1
      have ex3 := fr_e F83 (show zK S8c x1 < 18 by rw [hk8]; decide) n23
      unfold f_X2_readMarks_64 at hf
      exact mk_69 (S0 := S) mFuel 1 0 S3 _ _ 2001 rfl (by omega) (by omega) (by decide) (by omega) f2 (fr_t (fr_m d3 (fun a _ e => Or.inl e)) (fr_t (fr_m a3 (fun a _ e => Or.inr e)) (fr_m F83 (fun a _ e => Or.inl e)))) (ex3.1.trans hk8) ⟨by rw [ex3.2.2.1]; exact a2.1, by rw [ex3.2.2.1]; exact a2.2⟩ (by show (1 : Int) ≤ 4; decide) (fun j j4 j5 => by rw [ex3.2.2.1, a4 j j4 j5, ex.2.2.1]) hf
    obtain ⟨-, hf⟩ := m_chkE hf
    rcases m_ifE hf with ⟨c2, hf⟩ | ⟨c2, hf⟩
    · skip
      replace c2 := ti_leP (a := r7) (b := (2 : Int32)) c2 rfl (show (2 : Int32).toInt = 2 from rfl)
      rw [if_pos (show shM (ch (blk ch p)) (ch (blk ch p + 1)) ≤ 2 by omega)]
      exact fin 1 1 rfl (Or.inl rfl) hf
    · skip
      replace c2 := ti_leN (a := r7) (b := (2 : Int32)) c2 rfl (show (2 : Int32).toInt = 2 from rfl)
      rw [if_neg (show ¬ shM (ch (blk ch p)) (ch (blk ch p + 1)) ≤ 2 by omega)]
      exact fin 2 2 rfl (Or.inr ⟨rfl, by omega⟩) hf
end MKC
end
section
/-- the marks of the reference's node k -/
noncomputable def NKr (A : Nat → Nat → Int32) (k : Nat) (K : List Int) : Prop := (A 12 k).toInt = (K.length : Int) ∧ ∀ i : Nat, i < K.length → (A 13 (4 * k + i)).toInt = wA K (i : Int)
/-- only the marks of node k change -/
noncomputable def RFk (I I' : Nat → Int32) (A A' : Nat → Nat → Int32) (k : Nat) : Prop := (∀ j, j ≠ 37 → I' j = I j) ∧ (∀ j, j ≠ 12 → j ≠ 13 → A' j = A j) ∧ (∀ i, i ≠ k → A' 12 i = A 12 i) ∧ ∀ i, (i < 4 * k ∨ 4 * k + 4 ≤ i) → A' 13 i = A 13 i
section NUR
variable {I I0 I1 I2 I' : Nat → Int32} {A A0 A1 A2 A' : Nat → Nat → Int32} {ch : Int → Int} {N p q a : Int} {k : Nat} {K : List Int} {o : Int32 × MS} {x1 x2 x3 x4 x5 : Int32}
theorem rfk_0 : RFk I I A A k := ⟨fun _ _ => rfl, fun _ _ _ => rfl, fun _ _ => rfl, fun _ _ => rfl⟩
theorem rfk_t (h : RFk I I1 A A1 k) (g : RFk I1 I2 A1 A2 k) : RFk I I2 A A2 k := ⟨fun j hj => (g.1 j hj).trans (h.1 j hj), fun j a b => (g.2.1 j a b).trans (h.2.1 j a b), fun i hi => (g.2.2.1 i hi).trans (h.2.2.1 i hi), fun i hi => (g.2.2.2 i hi).trans (h.2.2.2 i hi)⟩
theorem rfk_i (h : ∀ j, j ≠ 37 → I' j = I j) : RFk I I' A A k := ⟨h, fun _ _ _ => rfl, fun _ _ => rfl, fun _ _ => rfl⟩
theorem nu_65 : ∀ (n : Nat) (I : Nat → Int32) (q : Int), (a ≤ q ∧ q ≤ N) → 0 ≤ a → (∀ j, a ≤ j → j < q → ch j = 46) → (0 ≤ x1.toInt ∧ x1.toInt ≤ 10000) → RV I A ch N q → (∀ j, j ≠ 37 → I j = I0 j) → f_readMoveNumber_65 n x1 x2 I A = some o → (x2.toInt = (I0 29).toInt ∧ o.1.toInt = 0 ∧ RV o.2.1 o.2.2 ch N (blk ch (ptk ch a)) ∧ o.2.2 = A ∧ (∀ j, j ≠ 37 → o.2.1 j = I0 j) ∧ blk ch (ptk ch a) ≤ N) ∨ (x2.toInt ≠ (I0 29).toInt ∧ 0 < o.1.toInt ∧ o.2.2 = A ∧ ∀ j, j ≠ 37 → o.2.1 j = I0 j) := by
  intro n
  induction n with
  | zero => intro I q _ _ _ _ _ _ hf; cases hf
  | succ n ih =>
    intro I q haq ha hs h1 h hI hf
    have hf : f_readMoveNumber_65s (f_readMoveNumber_65 n) x1 x2 I A = some o := hf
    obtain ⟨-, ⟨hc, hN, hn⟩, hcb, h37, hp⟩ := id h
    have i29 : (I 29).toInt = (I0 29).toInt := by rw [hI 29 (by decide)]
    unfold f_readMoveNumber_65s at hf
    obtain ⟨r1, h_r1, hf⟩ := m_clR hf (fun _ h => rro_look h)
    have p_r1 := pc_look h_r1
    dsimp only at p_r1
    have q1 := rv_lk h h_r1
    dsimp only at q1
    clear p_r1
    rcases m_ifE hf with ⟨c1, hf⟩ | ⟨c1, hf⟩
    · skip
      replace c1 := ti_eqP (a := r1) (b := (46 : Int32)) c1 rfl (show (46 : Int32).toInt = 46 from rfl)
      obtain ⟨v4, e_v4, hf⟩ := m_bndE hf
      have t_v4 : v4.toInt = (I 37).toInt + 1 := ti_add e_v4 rfl (show (1 : Int32).toInt = 1 from rfl) (by omega) (by omega)
      obtain ⟨I5, e_I5, hf⟩ := m_bndE hf
      have qN : q < N := by
        by_cases e : q < N
        · exact e
        · have := rv_out h (show N ≤ q by omega); omega
      refine ih I5 (q + 1) (by omega) ha (fun j j0 j1 => ?_) h1 (rv_at h e_I5 (by omega) (by omega)) (fun j hj => by rw [e_I5, upd_ne hj]; exact hI j hj) hf
      by_cases e : j = q
      · rw [e]; omega
      · exact hs j j0 (by omega)
    · skip
      replace c1 := ti_eqN (a := r1) (b := (46 : Int32)) c1 rfl (show (46 : Int32).toInt = 46 from rfl)
      rcases m_ifE hf with ⟨c2, hf⟩ | ⟨c2, hf⟩
      · skip
        replace c2 := ti_eqP (a := x2) (b := (I 29)) c2 rfl rfl
        obtain ⟨⟨r2, Ic2, Ac2⟩, h_r2, hf⟩ := m_clE hf
        dsimp only at hf
        have e : ptk ch a = q := ptk_e ⟨haq.1, hs, by omega⟩
        obtain ⟨b1, b2, b3, b4, b5⟩ := rv_bl h h_r2
        dsimp only at b2 b3 b4
        cases hf
        try dsimp only
        rw [e]
        exact Or.inl ⟨by omega, rfl, b2, b3, fun j hj => (b4 j hj).trans (hI j hj), by omega⟩
      · skip
        replace c2 := ti_eqN (a := x2) (b := (I 29)) c2 rfl rfl
        obtain ⟨r3, h_r3, hf⟩ := m_clR hf (fun _ h => rro_fault h)
        have q3 := v_fault (x1 := 7) (x2 := x1) (by decide) (by omega) h_r3
        dsimp only at q3
        have z7 : (7 : Int32).toInt = 7 := rfl
        cases hf
        try dsimp only
        exact Or.inr ⟨by omega, by show 0 < r3.toInt; omega, rfl, hI⟩
theorem nu_21 : ∀ (n : Nat) (x2 x3 : Int32) (I : Nat → Int32) (q : Int) (c : Nat), x3.toInt = 4 - (c : Int) → c ≤ 4 → DB c x2.toInt → q ≤ N → (0 ≤ x1.toInt ∧ x1.toInt ≤ 10000) → RV I A ch N q → (∀ j, j ≠ 37 → I j = I0 j) → f_readMoveNumber_21 n x1 x2 x3 I A = some o → ((dgs ch c q x2.toInt).2 = (I0 29).toInt ∧ o.1.toInt = 0 ∧ RV o.2.1 o.2.2 ch N (blk ch (ptk ch (dgs ch c q x2.toInt).1)) ∧ o.2.2 = A ∧ (∀ j, j ≠ 37 → o.2.1 j = I0 j) ∧ blk ch (ptk ch (dgs ch c q x2.toInt).1) ≤ N) ∨ ((dgs ch c q x2.toInt).2 ≠ (I0 29).toInt ∧ 0 < o.1.toInt ∧ o.2.2 = A ∧ ∀ j, j ≠ 37 → o.2.1 j = I0 j) := by
  intro n
  induction n with
  | zero => intro x2 x3 I q c _ _ _ _ _ _ _ hf; cases hf
  | succ n ih =>
    intro x2 x3 I q c h3 hc4 hD hqN h1 h hI hf
    have hf : f_readMoveNumber_21s (f_readMoveNumber_21 n) x1 x2 x3 I A = some o := hf
    obtain ⟨-, ⟨hc, hN, hn⟩, hcb, h37, hp⟩ := id h
    have b0 := hcb q
    have hD2 := hD
    unfold DB at hD2
    have fin : (c = 0 ∨ ¬ (48 ≤ ch q ∧ ch q ≤ 57)) → f_readMoveNumber_65 mFuel x1 x2 I A = some o → ((dgs ch c q x2.toInt).2 = (I0 29).toInt ∧ o.1.toInt = 0 ∧ RV o.2.1 o.2.2 ch N (blk ch (ptk ch (dgs ch c q x2.toInt).1)) ∧ o.2.2 = A ∧ (∀ j, j ≠ 37 → o.2.1 j = I0 j) ∧ blk ch (ptk ch (dgs ch c q x2.toInt).1) ≤ N) ∨ ((dgs ch c q x2.toInt).2 ≠ (I0 29).toInt ∧ 0 < o.1.toInt ∧ o.2.2 = A ∧ ∀ j, j ≠ 37 → o.2.1 j = I0 j) := by
      intro hz hf
      have e : dgs ch c q x2.toInt = (q, x2.toInt) := by
        rcases hz with e | e
        · subst e; rfl
        · cases c with
          | zero => rfl
          | succ c => exact dgs_n e
      rw [e]
      exact nu_65 mFuel I q ⟨Int.le_refl _, hqN⟩ (by omega) (fun j j0 j1 => by omega) h1 h hI hf
    unfold f_readMoveNumber_21s at hf
    obtain ⟨r1, h_r1, hf⟩ := m_clR hf (fun _ h => rro_look h)
    have p_r1 := pc_look h_r1
    dsimp only at p_r1
    have q1 := rv_lk h h_r1
    dsimp only at q1
    clear p_r1
    obtain ⟨r2, h_r2, hf⟩ := m_clR hf (fun _ h => rro_isDigit h)
    have p_r2 := pc_isDigit h_r2
    dsimp only at p_r2
    rw [q1] at p_r2
    unfold isD at p_r2
    rcases m_ifE hf with ⟨c1, hf⟩ | ⟨c1, hf⟩
    · skip
      replace c1 := ti_eqP (a := r2) (b := (0 : Int32)) c1 rfl (show (0 : Int32).toInt = 0 from rfl)
      exact fin (Or.inr (fun g => by have := p_r2.2.2 g; omega)) hf
    · skip
      replace c1 := ti_eqN (a := r2) (b := (0 : Int32)) c1 rfl (show (0 : Int32).toInt = 0 from rfl)
      rcases m_ifE hf with ⟨c2, hf⟩ | ⟨c2, hf⟩
      · skip
        replace c2 := ti_leP (a := (4 : Int32)) (b := x3) c2 (show (4 : Int32).toInt = 4 from rfl) rfl
        exact fin (Or.inl (by omega)) hf
      · skip
        replace c2 := ti_leN (a := (4 : Int32)) (b := x3) c2 (show (4 : Int32).toInt = 4 from rfl) rfl
        obtain ⟨v3, e_v3, hf⟩ := m_bndE hf
        have t_v3 : v3.toInt = 10 * x2.toInt := ti_mul e_v3 (show (10 : Int32).toInt = 10 from rfl) rfl (by omega) (by omega)
        obtain ⟨r4, h_r4, hf⟩ := m_clR hf (fun _ h => rro_look h)
        have p_r4 := pc_look h_r4
        dsimp only at p_r4
        have q4 := rv_lk h h_r4
        dsimp only at q4
        clear p_r4
        have dg := p_r2.2.1 (by omega)
        obtain ⟨c', rfl⟩ : ∃ c', c = c' + 1 := ⟨c - 1, by omega⟩
        have qN : q < N := by
          by_cases e : q < N
          · exact e
          · have := rv_out h (show N ≤ q by omega); omega
        obtain ⟨v5, e_v5, hf⟩ := m_bndE hf
        have t_v5 : v5.toInt = v3.toInt + r4.toInt := ti_add e_v5 rfl rfl (by omega) (by omega)
        obtain ⟨v6, e_v6, hf⟩ := m_bndE hf
        have t_v6 : v6.toInt = v5.toInt - 48 := ti_sub e_v6 rfl (show (48 : Int32).toInt = 48 from rfl) (by omega) (by omega)
        obtain ⟨v7, e_v7, hf⟩ := m_bndE hf
        have t_v7 : v7.toInt = x3.toInt + 1 := ti_add e_v7 rfl (show (1 : Int32).toInt = 1 from rfl) (by omega) (by omega)
        obtain ⟨v8, e_v8, hf⟩ := m_bndE hf
        have t_v8 : v8.toInt = (I 37).toInt + 1 := ti_add e_v8 rfl (show (1 : Int32).toInt = 1 from rfl) (by omega) (by omega)
        obtain ⟨I9, e_I9, hf⟩ := m_bndE hf
        rw [dgs_y dg]
        have e6 : v6.toInt = 10 * x2.toInt + (ch q - 48) := by omega
        rw [← e6]
        exact ih v6 v7 I9 (q + 1) c' (by omega) (by omega) (by unfold DB; omega) (by omega) h1 (rv_at h e_I9 (by omega) (by omega)) (fun j hj => by rw [e_I9, upd_ne hj]; exact hI j hj) hf
/-- the reference reads a move's number -/
theorem v_readMoveNumber (h : RV I A ch N p) (hpN : p ≤ N) (hf : f_readMoveNumber I A = some o) : (o.1.toInt = 0 ∧ ∃ e, nuP ch (I 29).toInt p = some e ∧ RV o.2.1 o.2.2 ch N e ∧ o.2.2 = A ∧ (∀ j, j ≠ 37 → o.2.1 j = I j) ∧ e ≤ N) ∨ (0 < o.1.toInt ∧ nuP ch (I 29).toInt p = none ∧ o.2.2 = A ∧ ∀ j, j ≠ 37 → o.2.1 j = I j) := by
  have hf : f_readMoveNumber_0 I A = some o := hf
  obtain ⟨-, ⟨hc, hN, hn⟩, hcb, h37, hp⟩ := id h
  have z0 : (0 : Int32).toInt = 0 := rfl
  unfold f_readMoveNumber_0 at hf
  obtain ⟨r1, h_r1, hf⟩ := m_clR hf (fun _ h => rro_look h)
  have p_r1 := pc_look h_r1
  dsimp only at p_r1
  have q1 := rv_lk h h_r1
  dsimp only at q1
  clear p_r1
  obtain ⟨r2, h_r2, hf⟩ := m_clR hf (fun _ h => rro_isDigit h)
  have p_r2 := pc_isDigit h_r2
  dsimp only at p_r2
  rw [q1] at p_r2
  unfold isD at p_r2
  rcases m_ifE hf with ⟨c1, hf⟩ | ⟨c1, hf⟩
  · skip
    replace c1 := ti_eqP (a := r2) (b := (0 : Int32)) c1 rfl (show (0 : Int32).toInt = 0 from rfl)
    cases hf
    try dsimp only
    exact Or.inl ⟨rfl, p, if_neg (fun g => by have := p_r2.2.2 g; omega), h, rfl, fun _ _ => rfl, hpN⟩
  · skip
    replace c1 := ti_eqN (a := r2) (b := (0 : Int32)) c1 rfl (show (0 : Int32).toInt = 0 from rfl)
    have dg := p_r2.2.1 (by omega)
    have g := nu_21 (I0 := I) mFuel 0 0 I p 4 (by decide) (by decide) (by unfold DB; omega) hpN (by omega) h (fun _ _ => rfl) hf
    rw [z0] at g
    unfold nuP
    rw [if_pos dg]
    rcases g with ⟨g1, g2, g3, g4, g5, g6⟩ | ⟨g1, g2, g3⟩
    · rw [if_pos g1]; exact Or.inl ⟨g2, _, rfl, g3, g4, g5, g6⟩
    · rw [if_neg g1]; exact Or.inr ⟨g2, rfl, g3⟩
/-- a mark more -/
theorem v_addMarkTo {g nd : Int} (h1 : x1.toInt = g) (h2 : x2.toInt = nd) (hg : 0 ≤ g ∧ g ≤ 1) (hnd : 0 ≤ nd ∧ nd ≤ 300) (hk : (k : Int) = 301 * g + nd) (hA : TK A) (hm : NKr A k K) (hl : (K.length : Int) ≤ 3) (h3 : 0 ≤ x3.toInt ∧ x3.toInt ≤ 255) (hf : f_addMarkTo x1 x2 x3 I A = some o) : o.2.1 = I ∧ TK o.2.2 ∧ NKr o.2.2 k (K ++ [x3.toInt]) ∧ RFk I I A o.2.2 k := by
  have hf : f_addMarkTo_0 x1 x2 x3 I A = some o := hf
  obtain ⟨m1, m2⟩ := hm
  have q4 : ∀ v : Int32, v.toInt = (k : Int) → ∀ w : Int32, w = A 12 v.toNatClampNeg → w.toInt = (K.length : Int) := fun v hv w hw => by rw [hw, cl_n hv]; exact m1
  unfold f_addMarkTo_0 at hf
  obtain ⟨v1, e_v1, hf⟩ := m_bndE hf
  have t_v1 : v1.toInt = 301 * x1.toInt := ti_mul e_v1 (show (301 : Int32).toInt = 301 from rfl) rfl (by omega) (by omega)
  obtain ⟨v2, e_v2, hf⟩ := m_bndE hf
  have t_v2 : v2.toInt = v1.toInt + x2.toInt := ti_add e_v2 rfl rfl (by omega) (by omega)
  obtain ⟨v3, e_v3, hf⟩ := m_bndE hf
  have t_v3 : v3.toInt = 4 * v2.toInt := ti_mul e_v3 (show (4 : Int32).toInt = 4 from rfl) rfl (by omega) (by omega)
  obtain ⟨-, hf⟩ := m_chkE hf
  obtain ⟨v4, e_v4, hf⟩ := m_bndE hf
  have t4 := q4 v2 (by omega) v4 e_v4
  obtain ⟨v5, e_v5, hf⟩ := m_bndE hf
  have t_v5 : v5.toInt = v3.toInt + v4.toInt := ti_add e_v5 rfl rfl (by omega) (by omega)
  obtain ⟨-, hf⟩ := m_chkE hf
  obtain ⟨A6, e_A6, hf⟩ := m_bndE hf
  have x5n : v5.toNatClampNeg = 4 * k + K.length := cl_n (by omega)
  rw [x5n] at e_A6
  have o6 : ∀ j, j ≠ 13 → A6 j = A j := fun j hj => by rw [e_A6]; exact va_up_ne _ _ hj
  have s6 : A6 13 = upd (A 13) (4 * k + K.length) x3 := by rw [e_A6]; exact va_up_self _ _ _
  have K6 : TK A6 := by rw [e_A6]; exact tk_u hA (show (0 : Int) ≤ x3.toInt by omega) (show x3.toInt ≤ (255 : Int) by omega)
  obtain ⟨-, hf⟩ := m_chkE hf
  obtain ⟨v7, e_v7, hf⟩ := m_bndE hf
  have t7 := q4 v2 (by omega) v7 (by rw [e_v7, o6 12 (by decide)])
  obtain ⟨v8, e_v8, hf⟩ := m_bndE hf
  have t_v8 : v8.toInt = v7.toInt + 1 := ti_add e_v8 rfl (show (1 : Int32).toInt = 1 from rfl) (by omega) (by omega)
  obtain ⟨-, hf⟩ := m_chkE hf
  obtain ⟨A9, e_A9, hf⟩ := m_bndE hf
  cases hf
  try dsimp only
  have x2n : v2.toNatClampNeg = k := cl_n (by omega)
  rw [x2n] at e_A9
  have o9 : ∀ j, j ≠ 12 → A9 j = A6 j := fun j hj => by rw [e_A9]; exact va_up_ne _ _ hj
  have s9 : A9 12 = upd (A6 12) k v8 := by rw [e_A9]; exact va_up_self _ _ _
  have ll : ((K ++ [x3.toInt]).length : Int) = (K.length : Int) + 1 := app_len
  refine ⟨rfl, by rw [e_A9]; exact tk_u K6 (show (0 : Int) ≤ v8.toInt by omega) (show v8.toInt ≤ (4 : Int) by omega), ⟨by rw [s9, upd_self, ll]; omega, fun i hi => ?_⟩, fun _ _ => rfl, fun j j1 j2 => (o9 j j1).trans (o6 j j2), fun i hi => by rw [s9, upd_ne hi, o6 12 (by decide)], fun i hi => by rw [o9 13 (by decide), s6, upd_ne (by omega)]⟩
  rw [o9 13 (by decide), s6]
  by_cases e : i = K.length
  · rw [e, upd_self, wA_app, if_pos rfl]
  · rw [upd_ne (by omega), wA_app, if_neg (by omega)]
    exact m2 i (by omega)
end NUR
section MKR
variable {I I0 : Nat → Int32} {A A0 : Nat → Nat → Int32} {ch : Int → Int} {N p q p0 : Int} {k : Nat} {K : List Int} {o : Int32 × MS} {x1 x2 x3 x4 x5 t0 : Int32} {g nd : Int}
/-- one mark with $, by the reference -/
noncomputable def MDr (self : Int32 → Int32 → (Nat → Int32) → (Nat → Nat → Int32) → Option (Int32 × MS)) (x1 x2 : Int32) (I : Nat → Int32) (A : Nat → Nat → Int32) (ch : Int → Int) (N : Int) (k : Nat) (K : List Int) (p : Int) (o : Int32 × MS) : Prop := (0 < o.1.toInt ∧ bdM ch p K ∧ RFk I o.2.1 A o.2.2 k) ∨ (¬ bdM ch p K ∧ ∃ I2 A2, RV I2 A2 ch N (blk ch (dgs ch 3 (p + 1) 0).1) ∧ RFk I I2 A A2 k ∧ NKr A2 k (K ++ [(dgs ch 3 (p + 1) 0).2]) ∧ BL ch (dgs ch 3 (p + 1) 0).1 (blk ch (dgs ch 3 (p + 1) 0).1) ∧ blk ch (dgs ch 3 (p + 1) 0).1 ≤ N ∧ self x1 x2 I2 A2 = some o)
theorem md_221 {self144 : Int32 → Int32 → (Nat → Int32) → (Nat → Nat → Int32) → Option (Int32 × MS)} (h1 : x1.toInt = g) (h2 : x2.toInt = nd) (hg : 0 ≤ g ∧ g ≤ 1) (hnd : 0 ≤ nd ∧ nd ≤ 300) (hk : (k : Int) = 301 * g + nd) (hm : NKr A k K) (hl : (K.length : Int) ≤ 4) (hp : 0 ≤ p ∧ p < N) (h3 : x3.toInt = p) (h4 : x4.toInt = (dgs ch 3 (p + 1) 0).2) (h5 : x5.toInt = (dgs ch 3 (p + 1) 0).1 - (p + 1)) (h : RV I A ch N (dgs ch 3 (p + 1) 0).1) (hI : ∀ j, j ≠ 37 → I j = I0 j) (hf : f_readMarks_221 self144 x1 x2 x3 x4 x5 I A = some o) : MDr self144 x1 x2 I0 A ch N k K p o := by
  obtain ⟨⟨hTI, hTA⟩, ⟨hc, hN, hn⟩, hcb, h37, hp37⟩ := id h
  have dv := dgs_v (ch := ch) 3 (p + 1) 0 (by unfold DB; omega)
  have db := dgs_b (ch := ch) 3 (p + 1) 0
  have dN := dgs_N (ch := ch) (N := N) (fun i hi => rv_out h hi) 3 (p + 1) 0 (by omega)
  have z1 : (1 : Int32).toInt = 1 := rfl
  have z8 : (8 : Int32).toInt = 8 := rfl
  have m1 := hm.1
  have f1 : bdM ch p K → f_readMarks_236 I A = some o → MDr self144 x1 x2 I0 A ch N k K p o := by
    intro hb hf
    unfold f_readMarks_236 at hf
    obtain ⟨r1, h_r1, hf⟩ := m_clR hf (fun _ h => rro_fault h)
    have q1 := v_fault (x1 := 1) (x2 := I 37) (by decide) (by omega) h_r1
    dsimp only at q1
    cases hf
    exact Or.inl ⟨by show 0 < r1.toInt; omega, hb, rfk_i hI⟩
  have f8 : bdM ch p K → f_readMarks_269 x3 I A = some o → MDr self144 x1 x2 I0 A ch N k K p o := by
    intro hb hf
    unfold f_readMarks_269 at hf
    obtain ⟨r1, h_r1, hf⟩ := m_clR hf (fun _ h => rro_fault h)
    have q1 := v_fault (x1 := 8) (x2 := x3) (by decide) (by omega) h_r1
    dsimp only at q1
    cases hf
    exact Or.inl ⟨by show 0 < r1.toInt; omega, hb, rfk_i hI⟩
  have q5 : ∀ v : Int32, v.toInt = (k : Int) → ∀ w : Int32, w = A 12 v.toNatClampNeg → w.toInt = (K.length : Int) := fun v hv w hw => by rw [hw, cl_n hv]; exact m1
  unfold f_readMarks_221 at hf
  rcases m_ifE hf with ⟨c1, hf⟩ | ⟨c1, hf⟩
  · skip
    replace c1 := ti_eqP (a := x5) (b := (0 : Int32)) c1 rfl (show (0 : Int32).toInt = 0 from rfl)
    exact f1 (Or.inl (by omega)) hf
  · skip
    replace c1 := ti_eqN (a := x5) (b := (0 : Int32)) c1 rfl (show (0 : Int32).toInt = 0 from rfl)
    obtain ⟨r1, h_r1, hf⟩ := m_clR hf (fun _ h => rro_look h)
    have p_r1 := pc_look h_r1
    dsimp only at p_r1
    have q1 := rv_lk h h_r1
    dsimp only at q1
    clear p_r1
    obtain ⟨r2, h_r2, hf⟩ := m_clR hf (fun _ h => rro_isDigit h)
    have p_r2 := pc_isDigit h_r2
    dsimp only at p_r2
    rw [q1] at p_r2
    unfold isD at p_r2
    rcases m_ifE hf with ⟨c2, hf⟩ | ⟨c2, hf⟩
    · skip
      replace c2 := ti_eqP (a := r2) (b := (0 : Int32)) c2 rfl (show (0 : Int32).toInt = 0 from rfl)
      rcases m_ifE hf with ⟨c3, hf⟩ | ⟨c3, hf⟩
      · skip
        replace c3 := ti_ltP (a := (255 : Int32)) (b := x4) c3 (show (255 : Int32).toInt = 255 from rfl) rfl
        exact f8 (Or.inr (Or.inr (Or.inl (by omega)))) hf
      · skip
        replace c3 := ti_ltN (a := (255 : Int32)) (b := x4) c3 (show (255 : Int32).toInt = 255 from rfl) rfl
        obtain ⟨v3, e_v3, hf⟩ := m_bndE hf
        have t_v3 : v3.toInt = 301 * x1.toInt := ti_mul e_v3 (show (301 : Int32).toInt = 301 from rfl) rfl (by omega) (by omega)
        obtain ⟨v4, e_v4, hf⟩ := m_bndE hf
        have t_v4 : v4.toInt = v3.toInt + x2.toInt := ti_add e_v4 rfl rfl (by omega) (by omega)
        obtain ⟨-, hf⟩ := m_chkE hf
        obtain ⟨v5, e_v5, hf⟩ := m_bndE hf
        have t5 := q5 v4 (by omega) v5 e_v5
        rcases m_ifE hf with ⟨c4, hf⟩ | ⟨c4, hf⟩
        · skip
          replace c4 := ti_eqP (a := v5) (b := (4 : Int32)) c4 rfl (show (4 : Int32).toInt = 4 from rfl)
          exact f8 (Or.inr (Or.inr (Or.inr (by omega)))) hf
        · skip
          replace c4 := ti_eqN (a := v5) (b := (4 : Int32)) c4 rfl (show (4 : Int32).toInt = 4 from rfl)
          obtain ⟨⟨r6, Ic6, Ac6⟩, h_r6, hf⟩ := m_clE hf
          dsimp only at hf
          obtain ⟨a1, a2, a3, a4⟩ := v_addMarkTo (x3 := x4) h1 h2 hg hnd hk hTA hm (by omega) (by omega) h_r6
          dsimp only at a1 a2 a3 a4
          rw [h4] at a3
          rw [a1] at h_r6 hf
          have R6 : RV I Ac6 ch N (dgs ch 3 (p + 1) 0).1 := rv_A h a2 (a4.2.1 2 (by decide) (by decide))
          obtain ⟨⟨r7, Ic7, Ac7⟩, h_r7, hf⟩ := m_clE hf
          dsimp only at hf
          obtain ⟨b1, b2, b3, b4, b5⟩ := rv_bl R6 h_r7
          dsimp only at b2 b3 b4
          rw [b3] at b2 hf
          refine Or.inr ⟨?_, Ic7, Ac6, b2, ⟨fun j hj => (b4 j hj).trans (hI j hj), a4.2⟩, a3, b1, by omega, hf⟩
          rintro (e | e | e | e)
          · omega
          · have := p_r2.2.2 e; omega
          · omega
          · omega
    · skip
      replace c2 := ti_eqN (a := r2) (b := (0 : Int32)) c2 rfl (show (0 : Int32).toInt = 0 from rfl)
      exact f1 (Or.inr (Or.inl (p_r2.2.1 (by omega)))) hf
theorem md_174 {self144 : Int32 → Int32 → (Nat → Int32) → (Nat → Nat → Int32) → Option (Int32 × MS)} (h1 : x1.toInt = g) (h2 : x2.toInt = nd) (hg : 0 ≤ g ∧ g ≤ 1) (hnd : 0 ≤ nd ∧ nd ≤ 300) (hk : (k : Int) = 301 * g + nd) (hm : NKr A k K) (hl : (K.length : Int) ≤ 4) (hp : 0 ≤ p ∧ p < N) (h3 : x3.toInt = p) : ∀ (n : Nat) (x4 x5 : Int32) (I : Nat → Int32) (q : Int) (c : Nat), x5.toInt = 3 - (c : Int) → q = p + 1 + x5.toInt → c ≤ 3 → DB c x4.toInt → q ≤ N → dgs ch 3 (p + 1) 0 = dgs ch c q x4.toInt → RV I A ch N q → (∀ j, j ≠ 37 → I j = I0 j) → f_readMarks_174 self144 n x1 x2 x3 x4 x5 I A = some o → MDr self144 x1 x2 I0 A ch N k K p o := by
  intro n
  induction n with
  | zero => intro x4 x5 I q c _ _ _ _ _ _ _ _ hf; cases hf
  | succ n ih =>
    intro x4 x5 I q c h5 hq hc4 hD hqN hd h hI hf
    have hf : f_readMarks_174s self144 (f_readMarks_174 self144 n) x1 x2 x3 x4 x5 I A = some o := hf
    obtain ⟨-, ⟨hc, hN, hn⟩, hcb, h37, hp37⟩ := id h
    have b0 := hcb q
    have hD2 := hD
    unfold DB at hD2
    have fin : (c = 0 ∨ ¬ (48 ≤ ch q ∧ ch q ≤ 57)) → f_readMarks_221 self144 x1 x2 x3 x4 x5 I A = some o → MDr self144 x1 x2 I0 A ch N k K p o := by
      intro hz hf
      have e : dgs ch c q x4.toInt = (q, x4.toInt) := by
        rcases hz with e | e
        · subst e; rfl
        · cases c with
          | zero => rfl
          | succ c => exact dgs_n e
      rw [e] at hd
      exact md_221 h1 h2 hg hnd hk hm hl hp h3 (by rw [hd]) (by rw [hd]; show _ = q - (p + 1); omega) (by rw [hd]; exact h) hI hf
    unfold f_readMarks_174s at hf
    obtain ⟨r1, h_r1, hf⟩ := m_clR hf (fun _ h => rro_look h)
    have p_r1 := pc_look h_r1
    dsimp only at p_r1
    have q1 := rv_lk h h_r1
    dsimp only at q1
    clear p_r1
    obtain ⟨r2, h_r2, hf⟩ := m_clR hf (fun _ h => rro_isDigit h)
    have p_r2 := pc_isDigit h_r2
    dsimp only at p_r2
    rw [q1] at p_r2
    unfold isD at p_r2
    rcases m_ifE hf with ⟨c1, hf⟩ | ⟨c1, hf⟩
    · skip
      replace c1 := ti_eqP (a := r2) (b := (0 : Int32)) c1 rfl (show (0 : Int32).toInt = 0 from rfl)
      exact fin (Or.inr (fun g => by have := p_r2.2.2 g; omega)) hf
    · skip
      replace c1 := ti_eqN (a := r2) (b := (0 : Int32)) c1 rfl (show (0 : Int32).toInt = 0 from rfl)
      rcases m_ifE hf with ⟨c2, hf⟩ | ⟨c2, hf⟩
      · skip
        replace c2 := ti_leP (a := (3 : Int32)) (b := x5) c2 (show (3 : Int32).toInt = 3 from rfl) rfl
        exact fin (Or.inl (by omega)) hf
      · skip
        replace c2 := ti_leN (a := (3 : Int32)) (b := x5) c2 (show (3 : Int32).toInt = 3 from rfl) rfl
        obtain ⟨v3, e_v3, hf⟩ := m_bndE hf
        have t_v3 : v3.toInt = 10 * x4.toInt := ti_mul e_v3 (show (10 : Int32).toInt = 10 from rfl) rfl (by omega) (by omega)
        obtain ⟨r4, h_r4, hf⟩ := m_clR hf (fun _ h => rro_look h)
        have p_r4 := pc_look h_r4
        dsimp only at p_r4
        have q4 := rv_lk h h_r4
        dsimp only at q4
        clear p_r4
        have dg := p_r2.2.1 (by omega)
        obtain ⟨c', rfl⟩ : ∃ c', c = c' + 1 := ⟨c - 1, by omega⟩
        have qN : q < N := by
          by_cases e : q < N
          · exact e
          · have := rv_out h (show N ≤ q by omega); omega
        obtain ⟨v5, e_v5, hf⟩ := m_bndE hf
        have t_v5 : v5.toInt = v3.toInt + r4.toInt := ti_add e_v5 rfl rfl (by omega) (by omega)
        obtain ⟨v6, e_v6, hf⟩ := m_bndE hf
        have t_v6 : v6.toInt = v5.toInt - 48 := ti_sub e_v6 rfl (show (48 : Int32).toInt = 48 from rfl) (by omega) (by omega)
        obtain ⟨v7, e_v7, hf⟩ := m_bndE hf
        have t_v7 : v7.toInt = x5.toInt + 1 := ti_add e_v7 rfl (show (1 : Int32).toInt = 1 from rfl) (by omega) (by omega)
        obtain ⟨v8, e_v8, hf⟩ := m_bndE hf
        have t_v8 : v8.toInt = (I 37).toInt + 1 := ti_add e_v8 rfl (show (1 : Int32).toInt = 1 from rfl) (by omega) (by omega)
        obtain ⟨I9, e_I9, hf⟩ := m_bndE hf
        rw [dgs_y dg] at hd
        have e6 : v6.toInt = 10 * x4.toInt + (ch q - 48) := by omega
        rw [← e6] at hd
        exact ih v6 v7 I9 (q + 1) c' (by omega) (by omega) (by omega) (by unfold DB; omega) (by omega) hd (rv_at h e_I9 (by omega) (by omega)) (fun j hj => by rw [e_I9, upd_ne hj]; exact hI j hj) hf
/-- how the marks end, by the reference -/
noncomputable def MKr (I : Nat → Int32) (A : Nat → Nat → Int32) (ch : Int → Int) (N : Int) (k : Nat) (z : Option (Int × List Int)) (o : Int32 × MS) : Prop := (∃ e w, z = some (e, w) ∧ o.1.toInt = 0 ∧ (w.length : Int) ≤ 4 ∧ e ≤ N ∧ RV o.2.1 o.2.2 ch N e ∧ RFk I o.2.1 A o.2.2 k ∧ NKr o.2.2 k w) ∨ (z = none ∧ 0 < o.1.toInt ∧ RFk I o.2.1 A o.2.2 k)
theorem md_144 (h1 : x1.toInt = g) (h2 : x2.toInt = nd) (hg : 0 ≤ g ∧ g ≤ 1) (hnd : 0 ≤ nd ∧ nd ≤ 300) (hk : (k : Int) = 301 * g + nd) : ∀ (n : Nat) (I : Nat → Int32) (A : Nat → Nat → Int32) (p : Int) (K : List Int) (c : Nat), RV I A ch N p → RFk I0 I A0 A k → NKr A k K → (K.length : Int) ≤ 4 → p ≤ N → N < p + (c : Int) → 1 ≤ c → f_readMarks_144 n x1 x2 I A = some o → MKr I0 A0 ch N k (mdP ch c p K) o := by
  intro n
  induction n with
  | zero => intro I A p K c _ _ _ _ _ _ _ hf; cases hf
  | succ n ih =>
    intro I A p K c hR hF hm hl hpN hc hc1 hf
    have hf : f_readMarks_144s (f_readMarks_144 n) x1 x2 I A = some o := hf
    obtain ⟨c2, rfl⟩ : ∃ c2, c = c2 + 1 := ⟨c - 1, by omega⟩
    obtain ⟨-, ⟨hct, hN, hn⟩, hcb, h37, hp⟩ := id hR
    have z0 : (0 : Int32).toInt = 0 := rfl
    unfold f_readMarks_144s at hf
    obtain ⟨r1, h_r1, hf⟩ := m_clR hf (fun _ h => rro_look h)
    have p_r1 := pc_look h_r1
    dsimp only at p_r1
    have q1 := rv_lk hR h_r1
    dsimp only at q1
    clear p_r1
    rcases m_ifE hf with ⟨c1, hf⟩ | ⟨c1, hf⟩
    · skip
      replace c1 := ti_eqP (a := r1) (b := (36 : Int32)) c1 rfl (show (36 : Int32).toInt = 36 from rfl)
      obtain ⟨v2, e_v2, hf⟩ := m_bndE hf
      have t_v2 : v2.toInt = (I 37).toInt + 1 := ti_add e_v2 rfl (show (1 : Int32).toInt = 1 from rfl) (by omega) (by omega)
      obtain ⟨I3, e_I3, hf⟩ := m_bndE hf
      have c36 : ch p = 36 := by omega
      have pN : p < N := by
        by_cases e : p < N
        · exact e
        · have := rv_out hR (show N ≤ p by omega); omega
      have R3 : RV I3 A ch N (p + 1) := rv_at hR e_I3 (by omega) (by omega)
      have g1 := md_174 (I0 := I) (g := g) (nd := nd) (p := p) h1 h2 hg hnd hk hm hl (by omega) h37 mFuel 0 0 I3 (p + 1) 3 (by decide) (by omega) (by decide) (by unfold DB; omega) (by omega) (by rw [z0]) R3 (fun j hj => by rw [e_I3, upd_ne hj]) hf
      rcases g1 with ⟨a1, a2, a9⟩ | ⟨a1, I2, A2, a2, a3, a4, a5, a6, a7⟩
      · exact Or.inr ⟨md_n c36 a2, a1, rfk_t hF a9⟩
      · rw [md_s c36 a1]
        have db := dgs_b (ch := ch) 3 (p + 1) 0
        have bge := a5.1
        refine ih I2 A2 _ _ c2 a2 (rfk_t hF a3) a4 ?_ a6 (by omega) (by omega) a7
        have : ((K ++ [(dgs ch 3 (p + 1) 0).2]).length : Int) = (K.length : Int) + 1 := app_len
        have : K.length ≠ 4 := fun e => a1 (Or.inr (Or.inr (Or.inr e)))
        omega
    · skip
      replace c1 := ti_eqN (a := r1) (b := (36 : Int32)) c1 rfl (show (36 : Int32).toInt = 36 from rfl)
      cases hf
      try dsimp only
      exact Or.inl ⟨p, K, md_0 (by omega), rfl, hl, hpN, hR, hF, hm⟩
/-- the reference reads marks -/
theorem v_readMarks (h1 : x1.toInt = g) (h2 : x2.toInt = nd) (hg : 0 ≤ g ∧ g ≤ 1) (hnd : 0 ≤ nd ∧ nd ≤ 300) (hk : (k : Int) = 301 * g + nd) (hR : RV I A ch N p) (hpN : p ≤ N) (hm : NKr A k []) (hf : f_readMarks x1 x2 I A = some o) : MKr I A ch N k (mkP ch p) o := by
  have hf : f_readMarks_0 x1 x2 I A = some o := hf
  have hn := hR.2.1.2.2
  have z0 : (0 : Int32).toInt = 0 := rfl
  have z1 : (1 : Int32).toInt = 1 := rfl
  have out : ∀ i, N ≤ i → ch i = 0 := fun i hi => rv_out hR hi
  have shr : ∀ (I1 : Nat → Int32), RV I1 A ch N (blk ch p) → (∀ j, j ≠ 37 → I1 j = I j) → (ch (blk ch p) = 33 ∨ ch (blk ch p) = 63) → blk ch p ≤ N → f_readMarks_22 x1 x2 I1 A = some o → MKr I A ch N k (mkP ch p) o := by
    intro I1 R1 hI1 hs hbN hf
    have bN : blk ch p < N := by
      by_cases e : blk ch p < N
      · exact e
      · have := out (blk ch p) (by omega); omega
    have b0 := R1.2.2.2.2
    -- behind the mark itself
    have fin : ∀ (I2 : Nat → Int32) (t : Int32) (d : Int), RV I2 A ch N (blk ch p + d) → (d = 1 ∨ d = 2) → blk ch p + d ≤ N → (∀ j, j ≠ 37 → I2 j = I j) → t.toInt = shM (ch (blk ch p)) (ch (blk ch p + 1)) → (shM (ch (blk ch p)) (ch (blk ch p + 1)) ≤ 2 ↔ d = 1) → f_readMarks_132 x1 x2 t I2 A = some o → MKr I A ch N k (mkP ch p) o := by
      intro I2 t d R2 hd hdN hI2 ht hdd hf
      have sb := shM_b (ch (blk ch p)) (ch (blk ch p + 1))
      unfold mkP
      rw [if_neg (show ¬ shM (ch (blk ch p)) (ch (blk ch p + 1)) ≤ 0 by omega)]
      have ed : (if shM (ch (blk ch p)) (ch (blk ch p + 1)) ≤ 2 then (1 : Int) else 2) = d := by
        by_cases e : shM (ch (blk ch p)) (ch (blk ch p + 1)) ≤ 2
        · rw [if_pos e, hdd.1 e]
        · rw [if_neg e]
          rcases hd with hd | hd
          · exact absurd (hdd.2 hd) e
          · exact hd.symm
      rw [ed]
      unfold f_readMarks_132 at hf
      obtain ⟨⟨r1, Ic1, Ac1⟩, h_r1, hf⟩ := m_clE hf
      dsimp only at hf
      obtain ⟨a1, a2, a3, a4⟩ := v_addMarkTo (x3 := t) h1 h2 hg hnd hk R2.1.2 hm (by decide) (by omega) h_r1
      dsimp only at a1 a2 a3 a4
      rw [ht, List.nil_append] at a3
      rw [a1] at hf
      have R1' : RV I2 Ac1 ch N (blk ch p + d) := rv_A R2 a2 (a4.2.1 2 (by decide) (by decide))
      obtain ⟨⟨r2, Ic2, Ac2⟩, h_r2, hf⟩ := m_clE hf
      dsimp only at hf
      obtain ⟨b1, b2, b3, b4, b5⟩ := rv_bl R1' h_r2
      dsimp only at b2 b3 b4
      rw [b3] at b2 hf
      have bge := b1.1
      exact md_144 (I0 := I) (A0 := A) h1 h2 hg hnd hk mFuel Ic2 Ac1 _ _ 2001 b2 ⟨fun j hj => (b4 j hj).trans (hI2 j hj), a4.2⟩ a3 (by show (1 : Int) ≤ 4; decide) (by omega) (by omega) (by decide) hf
    -- the second sign
    have two : ∀ (I2 : Nat → Int32) (x3 t0 : Int32), RV I2 A ch N (blk ch p + 1) → (∀ j, j ≠ 37 → I2 j = I j) → ((x3.toInt = 1 ∧ t0.toInt = 1 ∧ ch (blk ch p) = 33) ∨ (x3.toInt = 0 ∧ t0.toInt = 2 ∧ ch (blk ch p) = 63)) → f_readMarks_56 x1 x2 x3 t0 I2 A = some o → MKr I A ch N k (mkP ch p) o := by
      intro I2 x3 t0 R2 hI2 h3 hf
      have i237 := R2.2.2.2.1
      have adv : ∀ (t : Int32), (ch (blk ch p + 1) = 33 ∨ ch (blk ch p + 1) = 63) → t.toInt = shM (ch (blk ch p)) (ch (blk ch p + 1)) → 3 ≤ shM (ch (blk ch p)) (ch (blk ch p + 1)) → f_readMarks_120 x1 x2 t I2 A = some o → MKr I A ch N k (mkP ch p) o := by
        intro t hs2 ht h3' hf
        have bN2 : blk ch p + 1 < N := by
          by_cases e : blk ch p + 1 < N
          · exact e
          · have := out (blk ch p + 1) (by omega); omega
        unfold f_readMarks_120 at hf
        obtain ⟨v1, e1, hf⟩ := m_bndE hf
        obtain ⟨I3, e3, hf⟩ := m_bndE hf
        have t1 : v1.toInt = (I2 37).toInt + 1 := ti_add e1 rfl z1 (by omega) (by omega)
        exact fin I3 t 2 (rv_at R2 e3 (by omega) (by omega)) (Or.inr rfl) (by omega) (fun j hj => by rw [e3, upd_ne hj]; exact hI2 j hj) ht (by omega) hf
      have snd : ∀ (u : Int32), ((u.toInt = 1 ∧ ch (blk ch p + 1) = 33) ∨ (u.toInt = 0 ∧ ch (blk ch p + 1) = 63)) → f_readMarks_90 x1 x2 x3 u I2 A = some o → MKr I A ch N k (mkP ch p) o := by
        intro u hu hf
        have sv : shM (ch (blk ch p)) (ch (blk ch p + 1)) = (if x3.toInt = 1 then (if u.toInt = 1 then 3 else 5) else (if u.toInt = 1 then 6 else 4)) := by
          rcases h3 with ⟨a, -, b⟩ | ⟨a, -, b⟩ <;> rcases hu with ⟨c, d⟩ | ⟨c, d⟩ <;> rw [a, b, c, d] <;> decide
        unfold f_readMarks_90 at hf
        rcases m_ifE hf with ⟨c1, hf⟩ | ⟨c1, hf⟩
        · skip
          replace c1 := ti_eqP (a := x3) (b := (0 : Int32)) c1 rfl (show (0 : Int32).toInt = 0 from rfl)
          rcases m_ifE hf with ⟨c2, hf⟩ | ⟨c2, hf⟩
          · skip
            replace c2 := ti_eqP (a := u) (b := (0 : Int32)) c2 rfl (show (0 : Int32).toInt = 0 from rfl)
            rw [if_neg (by omega), if_neg (by omega)] at sv
            exact adv 4 (by omega) (by rw [sv]; rfl) (by omega) hf
          · skip
            replace c2 := ti_eqN (a := u) (b := (0 : Int32)) c2 rfl (show (0 : Int32).toInt = 0 from rfl)
            rw [if_neg (by omega), if_pos (by omega)] at sv
            exact adv 6 (by omega) (by rw [sv]; rfl) (by omega) hf
        · skip
          replace c1 := ti_eqN (a := x3) (b := (0 : Int32)) c1 rfl (show (0 : Int32).toInt = 0 from rfl)
          rcases m_ifE hf with ⟨c3, hf⟩ | ⟨c3, hf⟩
          · skip
            replace c3 := ti_eqP (a := u) (b := (0 : Int32)) c3 rfl (show (0 : Int32).toInt = 0 from rfl)
            rw [if_pos (by omega), if_neg (by omega)] at sv
            exact adv 5 (by omega) (by rw [sv]; rfl) (by omega) hf
          · skip
            replace c3 := ti_eqN (a := u) (b := (0 : Int32)) c3 rfl (show (0 : Int32).toInt = 0 from rfl)
            rw [if_pos (by omega), if_pos (by omega)] at sv
            exact adv 3 (by omega) (by rw [sv]; rfl) (by omega) hf
      have mid : (ch (blk ch p + 1) = 33 ∨ ch (blk ch p + 1) = 63) → f_readMarks_76 x1 x2 x3 I2 A = some o → MKr I A ch N k (mkP ch p) o := by
        intro hs2 hf
        unfold f_readMarks_76 at hf
        obtain ⟨r1, h_r1, hf⟩ := m_clR hf (fun _ h => rro_look h)
        have p_r1 := pc_look h_r1
        dsimp only at p_r1
        have q1 := rv_lk R2 h_r1
        dsimp only at q1
        clear p_r1
        rcases m_ifE hf with ⟨c1, hf⟩ | ⟨c1, hf⟩
        · skip
          replace c1 := ti_eqP (a := r1) (b := (33 : Int32)) c1 rfl (show (33 : Int32).toInt = 33 from rfl)
          exact snd 1 (Or.inl ⟨rfl, by omega⟩) hf
        · skip
          replace c1 := ti_eqN (a := r1) (b := (33 : Int32)) c1 rfl (show (33 : Int32).toInt = 33 from rfl)
          exact snd 0 (Or.inr ⟨rfl, by omega⟩) hf
      unfold f_readMarks_56 at hf
      obtain ⟨r1, h_r1, hf⟩ := m_clR hf (fun _ h => rro_look h)
      have p_r1 := pc_look h_r1
      dsimp only at p_r1
      have q1 := rv_lk R2 h_r1
      dsimp only at q1
      clear p_r1
      rcases m_ifE hf with ⟨c1, hf⟩ | ⟨c1, hf⟩
      · skip
        replace c1 := ti_eqP (a := r1) (b := (33 : Int32)) c1 rfl (show (33 : Int32).toInt = 33 from rfl)
        exact mid (Or.inl (by omega)) hf
      · skip
        replace c1 := ti_eqN (a := r1) (b := (33 : Int32)) c1 rfl (show (33 : Int32).toInt = 33 from rfl)
        obtain ⟨r2, h_r2, hf⟩ := m_clR hf (fun _ h => rro_look h)
        have p_r2 := pc_look h_r2
        dsimp only at p_r2
        have q2 := rv_lk R2 h_r2
        dsimp only at q2
        clear p_r2
        rcases m_ifE hf with ⟨c2, hf⟩ | ⟨c2, hf⟩
        · skip
          replace c2 := ti_eqP (a := r2) (b := (63 : Int32)) c2 rfl (show (63 : Int32).toInt = 63 from rfl)
          exact mid (Or.inr (by omega)) hf
        · skip
          replace c2 := ti_eqN (a := r2) (b := (63 : Int32)) c2 rfl (show (63 : Int32).toInt = 63 from rfl)
          have sv : shM (ch (blk ch p)) (ch (blk ch p + 1)) = t0.toInt := by
            unfold shM
            rcases h3 with ⟨a, b, c⟩ | ⟨a, b, c⟩
            · rw [if_pos c, if_neg (by omega), if_neg (by omega), b]
            · rw [if_neg (by omega), if_pos c, if_neg (by omega), if_neg (by omega), b]
          exact fin I2 t0 1 R2 (Or.inl rfl) (by omega) hI2 sv.symm (by omega) hf
    have one : ∀ (t : Int32), ((t.toInt = 1 ∧ ch (blk ch p) = 33) ∨ (t.toInt = 0 ∧ ch (blk ch p) = 63)) → f_readMarks_36 x1 x2 t I1 A = some o → MKr I A ch N k (mkP ch p) o := by
      intro t ht hf
      have i137 := R1.2.2.2.1
      unfold f_readMarks_36 at hf
      obtain ⟨v1, e_v1, hf⟩ := m_bndE hf
      have t_v1 : v1.toInt = (I1 37).toInt + 1 := ti_add e_v1 rfl (show (1 : Int32).toInt = 1 from rfl) (by omega) (by omega)
      obtain ⟨I2, e_I2, hf⟩ := m_bndE hf
      have R2 : RV I2 A ch N (blk ch p + 1) := rv_at R1 e_I2 (by omega) (by omega)
      have hI2 : ∀ j, j ≠ 37 → I2 j = I j := fun j hj => by rw [e_I2, upd_ne hj]; exact hI1 j hj
      rcases m_ifE hf with ⟨c1, hf⟩ | ⟨c1, hf⟩
      · skip
        replace c1 := ti_eqP (a := t) (b := (0 : Int32)) c1 rfl (show (0 : Int32).toInt = 0 from rfl)
        exact two I2 t 2 R2 hI2 (Or.inr ⟨by omega, rfl, by omega⟩) hf
      · skip
        replace c1 := ti_eqN (a := t) (b := (0 : Int32)) c1 rfl (show (0 : Int32).toInt = 0 from rfl)
        exact two I2 t 1 R2 hI2 (Or.inl ⟨by omega, rfl, by omega⟩) hf
    unfold f_readMarks_22 at hf
    obtain ⟨r1, h_r1, hf⟩ := m_clR hf (fun _ h => rro_look h)
    have p_r1 := pc_look h_r1
    dsimp only at p_r1
    have q1 := rv_lk R1 h_r1
    dsimp only at q1
    clear p_r1
    rcases m_ifE hf with ⟨c1, hf⟩ | ⟨c1, hf⟩
    · skip
      replace c1 := ti_eqP (a := r1) (b := (33 : Int32)) c1 rfl (show (33 : Int32).toInt = 33 from rfl)
      exact one 1 (Or.inl ⟨rfl, by omega⟩) hf
    · skip
      replace c1 := ti_eqN (a := r1) (b := (33 : Int32)) c1 rfl (show (33 : Int32).toInt = 33 from rfl)
      exact one 0 (Or.inr ⟨rfl, by omega⟩) hf
  unfold f_readMarks_0 at hf
  obtain ⟨⟨r1, Ic1, Ac1⟩, h_r1, hf⟩ := m_clE hf
  dsimp only at hf
  obtain ⟨b1, b2, b3, b4, b5⟩ := rv_bl hR h_r1
  dsimp only at b2 b3 b4
  rw [b3] at b2 hf
  have b0 := b2.2.2.2.2
  obtain ⟨r2, h_r2, hf⟩ := m_clR hf (fun _ h => rro_look h)
  have p_r2 := pc_look h_r2
  dsimp only at p_r2
  have q2 := rv_lk b2 h_r2
  dsimp only at q2
  clear p_r2
  rcases m_ifE hf with ⟨c1, hf⟩ | ⟨c1, hf⟩
  · skip
    replace c1 := ti_eqP (a := r2) (b := (33 : Int32)) c1 rfl (show (33 : Int32).toInt = 33 from rfl)
    exact shr Ic1 b2 b4 (Or.inl (by omega)) (by omega) hf
  · skip
    replace c1 := ti_eqN (a := r2) (b := (33 : Int32)) c1 rfl (show (33 : Int32).toInt = 33 from rfl)
    obtain ⟨r3, h_r3, hf⟩ := m_clR hf (fun _ h => rro_look h)
    have p_r3 := pc_look h_r3
    dsimp only at p_r3
    have q3 := rv_lk b2 h_r3
    dsimp only at q3
    clear p_r3
    rcases m_ifE hf with ⟨c2, hf⟩ | ⟨c2, hf⟩
    · skip
      replace c2 := ti_eqP (a := r3) (b := (63 : Int32)) c2 rfl (show (63 : Int32).toInt = 63 from rfl)
      exact shr Ic1 b2 b4 (Or.inr (by omega)) (by omega) hf
    · skip
      replace c2 := ti_eqN (a := r3) (b := (63 : Int32)) c2 rfl (show (63 : Int32).toInt = 63 from rfl)
      have sb := shM_b (ch (blk ch p)) (ch (blk ch p + 1))
      unfold mkP
      rw [if_pos (by omega)]
      exact md_144 (I0 := I) (A0 := A) h1 h2 hg hnd hk mFuel Ic1 A (blk ch p) [] 2001 b2 (rfk_i b4) hm (by decide) (by omega) (by omega) (by decide) hf
end MKR
end
