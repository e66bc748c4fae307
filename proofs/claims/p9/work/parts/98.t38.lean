theorem nm_u {ch : Int → Int} {a b c : Int} (h : NM ch a b) (g : NM ch a c) : b = c := by
  obtain ⟨h1, h2, h3⟩ := h
  obtain ⟨g1, g2, g3⟩ := g
  rcases Int.lt_trichotomy b c with l | l | l
  · exact absurd (g2 b h1 l) h3
  · exact l
  · exact absurd (h2 c g1 l) g3
/-- a tag that stands at p is not sound, at f -/
def TPf (ch : Int → Int) (N p f : Int) : Prop := ∃ n0 n1, BL ch (p + 1) n0 ∧ NM ch n0 n1 ∧ ((n0 = n1 ∧ f = n0) ∨ (n0 < n1 ∧ ∃ q, BL ch n1 q ∧ ((ch q ≠ 34 ∧ f = q) ∨ (ch q = 34 ∧ (((vlP ch N 2001 (q + 1) []).1 = false ∧ f = (vlP ch N 2001 (q + 1) []).2.1) ∨ ((vlP ch N 2001 (q + 1) []).1 = true ∧ ∃ e, BL ch (vlP ch N 2001 (q + 1) []).2.1 e ∧ ch e ≠ 93 ∧ f = e))))))
/-- a tag that stands at p ends at e, with the name u and the value w -/
def TPk (ch : Int → Int) (N p e : Int) (u w : List Int) : Prop := ∃ n0 n1 q, BL ch (p + 1) n0 ∧ NM ch n0 n1 ∧ n0 < n1 ∧ BL ch n1 q ∧ ch q = 34 ∧ (vlP ch N 2001 (q + 1) []).1 = true ∧ BL ch (vlP ch N 2001 (q + 1) []).2.1 e ∧ ch e = 93 ∧ u = wr ch n0 (n1 - n0).toNat ∧ w = (vlP ch N 2001 (q + 1) []).2.2
section TPU
variable {ch : Int → Int} {N p f f' e e' : Int} {u w u' w' : List Int}
theorem tpk_u (h : TPk ch N p e u w) (g : TPk ch N p e' u' w') : e = e' ∧ u = u' ∧ w = w' := by
  obtain ⟨n0, n1, q, h1, h2, h3, h4, h5, h6, h7, h8, h9, h10⟩ := h
  obtain ⟨m0, m1, r, g1, g2, g3, g4, g5, g6, g7, g8, g9, g10⟩ := g
  have e1 := bl_u h1 g1
  subst e1
  have e2 := nm_u h2 g2
  subst e2
  have e3 := bl_u h4 g4
  subst e3
  exact ⟨bl_u h7 g7, h9.trans g9.symm, h10.trans g10.symm⟩
theorem tpf_u (h : TPf ch N p f) (g : TPf ch N p f') : f = f' := by
  obtain ⟨n0, n1, h1, h2, h3⟩ := h
  obtain ⟨m0, m1, g1, g2, g3⟩ := g
  have e1 := bl_u h1 g1
  subst e1
  have e2 := nm_u h2 g2
  subst e2
  rcases h3 with ⟨a1, a2⟩ | ⟨a1, q, a2, a3⟩ <;> rcases g3 with ⟨b1, b2⟩ | ⟨b1, r, b2, b3⟩
  · rw [a2, b2]
  · omega
  · omega
  · have e3 := bl_u a2 b2
    subst e3
    rcases a3 with ⟨c1, c2⟩ | ⟨c1, c2⟩ <;> rcases b3 with ⟨d1, d2⟩ | ⟨d1, d2⟩
    · rw [c2, d2]
    · exact absurd d1 c1
    · exact absurd c1 d1
    · rcases c2 with ⟨c2, c3⟩ | ⟨c2, e, c3, c4, c5⟩ <;> rcases d2 with ⟨d2, d3⟩ | ⟨d2, e', d3, d4, d5⟩
      · rw [c3, d3]
      · rw [c2] at d2; cases d2
      · rw [c2] at d2; cases d2
      · rw [c5, d5]; exact bl_u c3 d3
theorem tp_x (h : TPf ch N p f) (g : TPk ch N p e u w) : False := by
  obtain ⟨n0, n1, h1, h2, h3⟩ := h
  obtain ⟨m0, m1, r, g1, g2, g3, g4, g5, g6, g7, g8, g9, g10⟩ := g
  have e1 := bl_u h1 g1
  subst e1
  have e2 := nm_u h2 g2
  subst e2
  rcases h3 with ⟨a1, a2⟩ | ⟨a1, q, a2, a3⟩
  · omega
  · have e3 := bl_u a2 g4
    subst e3
    rcases a3 with ⟨c1, c2⟩ | ⟨c1, c2⟩
    · exact absurd g5 c1
    · rcases c2 with ⟨c2, c3⟩ | ⟨c2, e9, c3, c4, c5⟩
      · rw [c2] at g6; cases g6
      · have e4 := bl_u c3 g7
        rw [e4] at c4
        exact absurd g8 c4
end TPU
section RTF
variable {I0 I : Nat → Int32} {A0 A : Nat → Nat → Int32} {ch : Int → Int} {N p g k : Int} {o : Int32 × MS} {x1 x2 x3 x4 : Int32}
/-- the reference's tag, up to the closing quote -/
theorem rt_23 (hN : N ≤ 2000) (h : TGi I0 A0 I A ch N p g k [] []) (hpN : p ≤ N) (h1 : x1.toInt = g) (h3 : x3.toInt = k) (h4 : x4.toInt = 0 ∨ x4.toInt = 1) (h48 : x4.toInt = 1 ↔ k = 8) (hf : f_readTag_23 x1 x2 x3 x4 I A = some o) : (∃ f, TPf ch N p f ∧ o.1.toInt = 10000 + f) ∨ (∃ n0 n1 q0 q I1 A1 n, ∃ y5 y6 : Int32, BL ch (p + 1) n0 ∧ NM ch n0 n1 ∧ n0 < n1 ∧ BL ch n1 q0 ∧ ch q0 = 34 ∧ (vlP ch N 2001 (q0 + 1) []).1 = true ∧ q + 1 = (vlP ch N 2001 (q0 + 1) []).2.1 ∧ q < N ∧ ch q = 34 ∧ y5.toInt = n1 - n0 ∧ y6.toInt = ((vlP ch N 2001 (q0 + 1) []).2.2.length : Int) ∧ TGi I0 A0 I1 A1 ch N q g k (wr ch n0 (n1 - n0).toNat) (vlP ch N 2001 (q0 + 1) []).2.2 ∧ f_readTag_175s (f_readTag_175 n) x1 x2 x3 x4 y5 y6 I1 A1 = some o) := by
  obtain ⟨hIA, ⟨hc, hn⟩, ⟨h37, hp⟩, -, -, -, -, -, ⟨hg, hk0, hk8⟩, hcb⟩ := id h
  have z0 : (0 : Int32).toInt = 0 := rfl
  have z1 : (1 : Int32).toInt = 1 := rfl
  have run : ∀ n0 I1 A1, BL ch (p + 1) n0 → n0 ≤ 2003 → 0 ≤ n0 → TGi I0 A0 I1 A1 ch N n0 g k [] [] → nmC (ch n0) → f_readTag_71 mFuel x1 x2 x3 x4 0 I1 A1 = some o → (∃ f, TPf ch N p f ∧ o.1.toInt = 10000 + f) ∨ (∃ n0 n1 q0 q I1 A1 n, ∃ y5 y6 : Int32, BL ch (p + 1) n0 ∧ NM ch n0 n1 ∧ n0 < n1 ∧ BL ch n1 q0 ∧ ch q0 = 34 ∧ (vlP ch N 2001 (q0 + 1) []).1 = true ∧ q + 1 = (vlP ch N 2001 (q0 + 1) []).2.1 ∧ q < N ∧ ch q = 34 ∧ y5.toInt = n1 - n0 ∧ y6.toInt = ((vlP ch N 2001 (q0 + 1) []).2.2.length : Int) ∧ TGi I0 A0 I1 A1 ch N q g k (wr ch n0 (n1 - n0).toNat) (vlP ch N 2001 (q0 + 1) []).2.2 ∧ f_readTag_175s (f_readTag_175 n) x1 x2 x3 x4 y5 y6 I1 A1 = some o) := by
    intro n0 I1 A1 hb hle h0 G hs hf
    obtain ⟨n1, q0, I2, A2, y, g1, g2, g3, g4, g5⟩ := rt_71 (a := n0) hN h0 h1 h3 h4 h48 mFuel 0 I1 A1 0 rfl (by rw [show n0 + ((0 : Nat) : Int) = n0 by omega]; exact G) (fun j j0 j1 => by omega) (by omega) hf
    have lt : n0 < n1 := by
      have := g1.1
      by_cases e : n0 = n1
      · rw [e] at hs; exact absurd hs g1.2.2
      · omega
    rcases g5 with ⟨a1, a2⟩ | ⟨a1, I8, a2, a3⟩
    · exact Or.inl ⟨q0, ⟨n0, n1, hb, g1, Or.inr ⟨lt, q0, g2, Or.inl ⟨a1, rfl⟩⟩⟩, a2⟩
    · have q0N : q0 < N := by
        by_cases e : q0 < N
        · exact e
        · have : ch q0 = 0 := by rw [← hc]; exact tx_out (by omega)
          omega
      have q00 : 0 ≤ q0 := g3.2.2.1.2.1
      have g9 := rt_175 (x2 := x2) hN h1 h3 h4 h48 mFuel 0 I8 A2 2001 (q0 + 1) [] rfl a2 (by omega) (by decide) (by omega) (by show (0 : Int) ≤ q0 + 1; omega) a3
      rcases g9 with ⟨b1, b2⟩ | ⟨b1, q, I9, A9, n9, y6, b2, b3, b4, b5, b6, b7⟩
      · exact Or.inl ⟨_, ⟨n0, n1, hb, g1, Or.inr ⟨lt, q0, g2, Or.inr ⟨a1, Or.inl ⟨b1, rfl⟩⟩⟩⟩, b2⟩
      · exact Or.inr ⟨n0, n1, q0, q, I9, A9, n9, y, y6, hb, g1, lt, g2, a1, b1, b2, b3, b4, g4, b5, b6, b7⟩
  unfold f_readTag_23 at hf
  obtain ⟨v1, e_v1, hf⟩ := m_bndE hf
  have t_v1 : v1.toInt = (I 37).toInt + 1 := ti_add e_v1 rfl (show (1 : Int32).toInt = 1 from rfl) (by omega) (by omega)
  obtain ⟨I2, e_I2, hf⟩ := m_bndE hf
  have G2 : TGi I0 A0 I2 A ch N (p + 1) g k [] [] := tgi_at h e_I2 (by omega) (by omega)
  obtain ⟨⟨r3, Ic3, Ac3⟩, h_r3, hf⟩ := m_clE hf
  dsimp only at hf
  obtain ⟨n0, g1, G3, g3⟩ := tgi_bl G2 hN h_r3
  dsimp only at G3
  have n0b := G3.2.2.1
  have n0g := g1.1
  obtain ⟨r4, h_r4, hf⟩ := m_clR hf (fun _ h => rro_look h)
  have p_r4 := pc_look h_r4
  dsimp only at p_r4
  have q4 := tgi_lk G3 h_r4
  dsimp only at q4
  clear p_r4
  obtain ⟨r5, h_r5, hf⟩ := m_clR hf (fun _ h => rro_isLetter h)
  have p_r5 := pc_isLetter h_r5
  dsimp only at p_r5
  rw [q4] at p_r5
  rcases m_ifE hf with ⟨c1, hf⟩ | ⟨c1, hf⟩
  · skip
    replace c1 := ti_eqP (a := r5) (b := (0 : Int32)) c1 rfl (show (0 : Int32).toInt = 0 from rfl)
    obtain ⟨r6, h_r6, hf⟩ := m_clR hf (fun _ h => rro_look h)
    have p_r6 := pc_look h_r6
    dsimp only at p_r6
    have q6 := tgi_lk G3 h_r6
    dsimp only at q6
    clear p_r6
    obtain ⟨r7, h_r7, hf⟩ := m_clR hf (fun _ h => rro_isDigit h)
    have p_r7 := pc_isDigit h_r7
    dsimp only at p_r7
    rw [q6] at p_r7
    rcases m_ifE hf with ⟨c2, hf⟩ | ⟨c2, hf⟩
    · skip
      replace c2 := ti_eqP (a := r7) (b := (0 : Int32)) c2 rfl (show (0 : Int32).toInt = 0 from rfl)
      obtain ⟨r8, h_r8, hf⟩ := m_clR hf (fun _ h => rro_fault h)
      have q8 := v_fault (x1 := 1) (x2 := Ic3 37) (by decide) (by omega) h_r8
      dsimp only at q8
      cases hf
      try dsimp only
      refine Or.inl ⟨n0, ⟨n0, n0, g1, ⟨Int.le_refl _, fun j j0 j1 => by omega, fun gg => ?_⟩, Or.inl ⟨rfl, rfl⟩⟩, by omega⟩
      rcases gg with gg | gg
      · have := p_r5.2.2 gg; omega
      · have := p_r7.2.2 gg; omega
    · skip
      replace c2 := ti_eqN (a := r7) (b := (0 : Int32)) c2 rfl (show (0 : Int32).toInt = 0 from rfl)
      exact run n0 Ic3 Ac3 g1 (by omega) (by omega) G3 (Or.inr (p_r7.2.1 (by omega))) hf
  · skip
    replace c1 := ti_eqN (a := r5) (b := (0 : Int32)) c1 rfl (show (0 : Int32).toInt = 0 from rfl)
    exact run n0 Ic3 Ac3 g1 (by omega) (by omega) G3 (Or.inl (p_r5.2.1 (by omega))) hf
/-- the position with which the reference's game g begins -/
def SPo (A : Nat → Nat → Int32) (g : Int) (m : Int → Int) (sd rt ps nb : Int) : Prop := (∀ s : Int, 0 ≤ s → s < 64 → (A 16 (64 * g + s).toNat).toInt = m s) ∧ (A 17 (5 * g).toNat).toInt = sd ∧ (A 17 (5 * g + 1).toNat).toInt = rt ∧ (A 17 (5 * g + 2).toNat).toInt = ps ∧ (A 17 (5 * g + 4).toNat).toInt = nb
/-- the other game's position stays -/
def SPx (A A' : Nat → Nat → Int32) (g : Int) : Prop := (∀ i : Nat, ((i : Int) < 64 * g ∨ 64 * g + 64 ≤ (i : Int)) → A' 16 i = A 16 i) ∧ (∀ i : Nat, ((i : Int) < 5 * g ∨ 5 * g + 5 ≤ (i : Int)) → A' 17 i = A 17 i) ∧ ∀ j, j ≠ 16 → j ≠ 17 → A' j = A j
theorem st_2 {m : Int → Int} (hg : g = 0 ∨ g = 1) (h1 : x1.toInt = g) : ∀ (n : Nat) (x2 : Int32) (A : Nat → Nat → Int32), mR A = m → (0 ≤ x2.toInt ∧ x2.toInt ≤ 64) → (∀ s : Int, 0 ≤ s → s < x2.toInt → (A 16 (64 * g + s).toNat).toInt = m s) → SPx A0 A g → f_start_2 n x1 x2 I A = some o → o.2.1 = I ∧ SPo o.2.2 g m (I 25).toInt (I 26).toInt (I 27).toInt (I 29).toInt ∧ SPx A0 o.2.2 g := by
  intro n
  induction n with
  | zero => intro x2 A _ _ _ _ hf; cases hf
  | succ n ih =>
    intro x2 A hm h2 hs hx hf
    have hf : f_start_2s (f_start_2 n) x1 x2 I A = some o := hf
    obtain ⟨hx1, hx2, hx3⟩ := hx
    have step17 : ∀ {B B' : Nat → Nat → Int32} {x v : Int32}, B' = va_up B 17 (upd (B 17) (x).toNatClampNeg v) → (∀ j, j ≠ 17 → B' j = B j) ∧ (∀ i : Nat, i ≠ x.toInt.toNat → B' 17 i = B 17 i) ∧ B' 17 x.toInt.toNat = v := fun {B B' x v} e => by
      subst e
      refine ⟨fun j hj => va_up_ne _ _ hj, fun i hi => ?_, ?_⟩
      · rw [va_up_self]; exact upd_ne hi
      · rw [va_up_self]; exact upd_self
    unfold f_start_2s at hf
    rcases m_ifE hf with ⟨c1, hf⟩ | ⟨c1, hf⟩
    · skip
      replace c1 := ti_leP (a := (64 : Int32)) (b := x2) c1 (show (64 : Int32).toInt = 64 from rfl) rfl
      obtain ⟨v1, e_v1, hf⟩ := m_bndE hf
      have t_v1 : v1.toInt = 5 * x1.toInt := ti_mul e_v1 (show (5 : Int32).toInt = 5 from rfl) rfl (by omega) (by omega)
      obtain ⟨-, hf⟩ := m_chkE hf
      obtain ⟨A2, e_A2, hf⟩ := m_bndE hf
      obtain ⟨a21, a22, a23⟩ := step17 e_A2
      obtain ⟨v3, e_v3, hf⟩ := m_bndE hf
      have t_v3 : v3.toInt = 5 * x1.toInt := ti_mul e_v3 (show (5 : Int32).toInt = 5 from rfl) rfl (by omega) (by omega)
      obtain ⟨v4, e_v4, hf⟩ := m_bndE hf
      have t_v4 : v4.toInt = v3.toInt + 1 := ti_add e_v4 rfl (show (1 : Int32).toInt = 1 from rfl) (by omega) (by omega)
      obtain ⟨-, hf⟩ := m_chkE hf
      obtain ⟨A5, e_A5, hf⟩ := m_bndE hf
      obtain ⟨a51, a52, a53⟩ := step17 e_A5
      obtain ⟨v6, e_v6, hf⟩ := m_bndE hf
      have t_v6 : v6.toInt = 5 * x1.toInt := ti_mul e_v6 (show (5 : Int32).toInt = 5 from rfl) rfl (by omega) (by omega)
      obtain ⟨v7, e_v7, hf⟩ := m_bndE hf
      have t_v7 : v7.toInt = v6.toInt + 2 := ti_add e_v7 rfl (show (2 : Int32).toInt = 2 from rfl) (by omega) (by omega)
      obtain ⟨-, hf⟩ := m_chkE hf
      obtain ⟨A8, e_A8, hf⟩ := m_bndE hf
      obtain ⟨a81, a82, a83⟩ := step17 e_A8
      obtain ⟨v9, e_v9, hf⟩ := m_bndE hf
      have t_v9 : v9.toInt = 5 * x1.toInt := ti_mul e_v9 (show (5 : Int32).toInt = 5 from rfl) rfl (by omega) (by omega)
      obtain ⟨v10, e_v10, hf⟩ := m_bndE hf
      have t_v10 : v10.toInt = v9.toInt + 3 := ti_add e_v10 rfl (show (3 : Int32).toInt = 3 from rfl) (by omega) (by omega)
      obtain ⟨-, hf⟩ := m_chkE hf
      obtain ⟨A11, e_A11, hf⟩ := m_bndE hf
      obtain ⟨b11, b12, b13⟩ := step17 e_A11
      obtain ⟨v12, e_v12, hf⟩ := m_bndE hf
      have t_v12 : v12.toInt = 5 * x1.toInt := ti_mul e_v12 (show (5 : Int32).toInt = 5 from rfl) rfl (by omega) (by omega)
      obtain ⟨v13, e_v13, hf⟩ := m_bndE hf
      have t_v13 : v13.toInt = v12.toInt + 4 := ti_add e_v13 rfl (show (4 : Int32).toInt = 4 from rfl) (by omega) (by omega)
      obtain ⟨-, hf⟩ := m_chkE hf
      obtain ⟨A14, e_A14, hf⟩ := m_bndE hf
      obtain ⟨b41, b42, b43⟩ := step17 e_A14
      have e1 : v1.toInt = 5 * g := by omega
      have e4 : v4.toInt = 5 * g + 1 := by omega
      have e7 : v7.toInt = 5 * g + 2 := by omega
      have e10 : v10.toInt = 5 * g + 3 := by omega
      have e13 : v13.toInt = 5 * g + 4 := by omega
      rw [e1] at a22 a23
      rw [e4] at a52 a53
      rw [e7] at a82 a83
      rw [e10] at b12 b13
      rw [e13] at b42 b43
      have k16 : A14 16 = A 16 := by rw [b41 16 (by decide), b11 16 (by decide), a81 16 (by decide), a51 16 (by decide), a21 16 (by decide)]
      cases hf
      try dsimp only
      refine ⟨rfl, ⟨fun s s0 s1 => by rw [k16]; exact hs s s0 (by omega), ?_, ?_, ?_, ?_⟩, fun i hi => by rw [k16]; exact hx1 i hi, fun i hi => ?_, fun j j1 j2 => ?_⟩
      · rw [b42 _ (by omega), b12 _ (by omega), a82 _ (by omega), a52 _ (by omega), a23]
      · rw [b42 _ (by omega), b12 _ (by omega), a82 _ (by omega), a53]
      · rw [b42 _ (by omega), b12 _ (by omega), a83]
      · rw [b43]
      · rw [b42 _ (by omega), b12 _ (by omega), a82 _ (by omega), a52 _ (by omega), a22 _ (by omega)]; exact hx2 i hi
      · rw [b41 j j2, b11 j j2, a81 j j2, a51 j j2, a21 j j2]; exact hx3 j j1 j2
    · skip
      replace c1 := ti_leN (a := (64 : Int32)) (b := x2) c1 (show (64 : Int32).toInt = 64 from rfl) rfl
      obtain ⟨v15, e_v15, hf⟩ := m_bndE hf
      have t_v15 : v15.toInt = 64 * x1.toInt := ti_mul e_v15 (show (64 : Int32).toInt = 64 from rfl) rfl (by omega) (by omega)
      obtain ⟨v16, e_v16, hf⟩ := m_bndE hf
      have t_v16 : v16.toInt = v15.toInt + x2.toInt := ti_add e_v16 rfl rfl (by omega) (by omega)
      obtain ⟨-, hf⟩ := m_chkE hf
      obtain ⟨v17, e_v17, hf⟩ := m_bndE hf
      obtain ⟨-, hf⟩ := m_chkE hf
      obtain ⟨A18, e_A18, hf⟩ := m_bndE hf
      obtain ⟨v19, e_v19, hf⟩ := m_bndE hf
      have t_v19 : v19.toInt = x2.toInt + 1 := ti_add e_v19 rfl (show (1 : Int32).toInt = 1 from rfl) (by omega) (by omega)
      have q17 := mR_at e_v17 (by omega) (by omega)
      rw [hm] at q17
      have e16 : v16.toInt = 64 * g + x2.toInt := by omega
      have xn : v16.toNatClampNeg = (64 * g + x2.toInt).toNat := by rw [← e16]; rfl
      have o16 : ∀ j, j ≠ 16 → A18 j = A j := fun j hj => by rw [e_A18]; exact va_up_ne _ _ hj
      have n16 : A18 16 = upd (A 16) v16.toNatClampNeg v17 := by rw [e_A18]; exact va_up_self _ _ _
      refine ih v19 A18 ((mR_fr (o16 24 (by decide))).trans hm) (by omega) (fun s s0 s1 => ?_) ⟨fun i hi => ?_, fun i hi => by rw [o16 17 (by decide)]; exact hx2 i hi, fun j j1 j2 => (o16 j j1).trans (hx3 j j1 j2)⟩ hf
      · rw [n16]
        by_cases e : s = x2.toInt
        · rw [e, ← xn, upd_self]; exact q17
        · rw [upd_ne (by rw [xn]; omega)]; exact hs s s0 (by omega)
      · rw [n16, upd_ne (by rw [xn]; omega)]; exact hx1 i hi
theorem v_start {m : Int → Int} (hg : g = 0 ∨ g = 1) (h1 : x1.toInt = g) (hm : mR A = m) (hf : f_start x1 I A = some o) : o.2.1 = I ∧ SPo o.2.2 g m (I 25).toInt (I 26).toInt (I 27).toInt (I 29).toInt ∧ SPx A o.2.2 g := st_2 (A0 := A) hg h1 mFuel 0 A hm (by decide) (fun s s0 s1 => by have z : (0 : Int32).toInt = 0 := rfl; omega) ⟨fun _ _ => rfl, fun _ _ => rfl, fun _ _ _ => rfl⟩ hf
end RTF
