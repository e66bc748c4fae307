/-- while the reference reads a tag of game g, number k: the place, the name u and the value w so far -/
def TGi (I0 : Nat → Int32) (A0 : Nat → Nat → Int32) (I : Nat → Int32) (A : Nat → Nat → Int32) (ch : Int → Int) (N p g k : Int) (u w : List Int) : Prop := (TJ I ∧ TK A) ∧ (txR I A = ch ∧ (I 1).toInt = N) ∧ ((I 37).toInt = p ∧ 0 ≤ p ∧ p ≤ 2010) ∧ (∀ j, j ≠ 37 → I j = I0 j) ∧ (∀ j, j ≠ 20 → j ≠ 22 → A j = A0 j) ∧ (∀ i : Nat, (k = 8 ∨ (i : Int) < 96 * g + 12 * k ∨ 96 * g + 12 * k + 12 ≤ (i : Int)) → A 20 i = A0 20 i) ∧ (∀ i : Nat, (k = 8 ∨ (i : Int) < 768 * g + 96 * k ∨ 768 * g + 96 * k + 96 ≤ (i : Int)) → A 22 i = A0 22 i) ∧ (k ≠ 8 → (∀ i : Int, 0 ≤ i → i < (u.length : Int) → i < 12 → (A 20 (96 * g + 12 * k + i).toNat).toInt = wA u i) ∧ ∀ i : Int, 0 ≤ i → i < (w.length : Int) → i < 96 → (A 22 (768 * g + 96 * k + i).toNat).toInt = wA w i) ∧ ((g = 0 ∨ g = 1) ∧ 0 ≤ k ∧ k ≤ 8) ∧ (∀ i, 0 ≤ ch i ∧ ch i ≤ 127)
section TGS
variable {I0 I I' : Nat → Int32} {A0 A A' : Nat → Nat → Int32} {ch : Int → Int} {N p q g k a : Int} {u w : List Int} {o : Int32 × MS} {x1 x2 x3 x4 x5 : Int32}
theorem tgi_at {v : Int32} (h : TGi I0 A0 I A ch N p g k u w) (e : I' = upd I 37 v) (hv : v.toInt = q) (hq : 0 ≤ q ∧ q ≤ 2010) : TGi I0 A0 I' A ch N q g k u w := by
  obtain ⟨⟨hI, hA⟩, ⟨hc, hN⟩, -, hi, r⟩ := h
  subst e
  refine ⟨⟨tj_u hI (show (0 : Int) ≤ v.toInt by omega) (show v.toInt ≤ (2100 : Int) by omega), hA⟩, ⟨?_, by rw [upd_ne (by decide)]; exact hN⟩, ⟨by rw [upd_self]; exact hv, hq⟩, fun j hj => by rw [upd_ne hj]; exact hi j hj, r⟩
  rw [← hc]
  funext i
  unfold txR
  rw [upd_ne (by decide)]
theorem tgi_lk (h : TGi I0 A0 I A ch N p g k u w) (hf : f_look I A = some o) : o.1.toInt = ch p := by
  obtain ⟨-, ⟨hc, -⟩, ⟨h37, hp⟩, -⟩ := h
  have g1 := pc_look hf (by omega)
  rw [hc, h37] at g1
  exact g1
theorem tgi_bl (h : TGi I0 A0 I A ch N p g k u w) (hN : N ≤ 2000) (hf : f_blanks I A = some o) : ∃ b, BL ch p b ∧ TGi I0 A0 o.2.1 o.2.2 ch N b g k u w ∧ (b ≤ p ∨ b ≤ N) := by
  obtain ⟨-, ⟨hc, hn⟩, ⟨h37, hp⟩, -⟩ := id h
  obtain ⟨v, g1, g2, g3⟩ := p_blanks hc (by omega) (by omega) hf
  rw [h37] at g1 g3
  rw [hn] at g3
  have := g1.1
  rw [g2]
  exact ⟨v.toInt, g1, tgi_at h rfl rfl (by omega), g3⟩
theorem wA_lt {u : List Int} {c i : Int} (h : i < (u.length : Int)) : wA (u ++ [c]) i = wA u i := by rw [wA_app, if_neg (by omega)]
theorem app_len {u : List Int} {c : Int} : ((u ++ [c]).length : Int) = (u.length : Int) + 1 := by
  rw [List.length_append]
  rfl
/-- a sign more that is not kept -/
theorem tgi_n0 {c : Int} (h : TGi I0 A0 I A ch N p g k u w) (hl : k = 8 ∨ 12 ≤ (u.length : Int)) : TGi I0 A0 I A ch N p g k (u ++ [c]) w := by
  obtain ⟨h1, h2, h3, h4, h5, h6, h7, h8, h9⟩ := h
  refine ⟨h1, h2, h3, h4, h5, h6, h7, fun hk => ⟨fun i i0 i1 i2 => ?_, (h8 hk).2⟩, h9⟩
  rw [wA_lt (by omega)]
  exact (h8 hk).1 i i0 (by omega) i2
theorem tgi_v0 {c : Int} (h : TGi I0 A0 I A ch N p g k u w) (hl : k = 8 ∨ 96 ≤ (w.length : Int)) : TGi I0 A0 I A ch N p g k u (w ++ [c]) := by
  obtain ⟨h1, h2, h3, h4, h5, h6, h7, h8, h9⟩ := h
  refine ⟨h1, h2, h3, h4, h5, h6, h7, fun hk => ⟨(h8 hk).1, fun i i0 i1 i2 => ?_⟩, h9⟩
  rw [wA_lt (by omega)]
  exact (h8 hk).2 i i0 (by omega) i2
theorem tgi_n1 {c x v : Int32} (h : TGi I0 A0 I A ch N p g k u w) (hl : (u.length : Int) < 12) (hk : k ≠ 8) (hc : 0 ≤ c.toInt ∧ c.toInt ≤ 127) (hv : v.toInt = c.toInt) (hx : x.toInt = 96 * g + 12 * k + (u.length : Int)) (e : A' = va_up A 20 (upd (A 20) (x).toNatClampNeg v)) : TGi I0 A0 I A' ch N p g k (u ++ [c.toInt]) w := by
  obtain ⟨⟨hI, hA⟩, ⟨h2, hN⟩, h3, h4, h5, h6, h7, h8, h9⟩ := h
  have xn : x.toNatClampNeg = (96 * g + 12 * k + (u.length : Int)).toNat := by rw [← hx]; rfl
  have at20 : A' 20 = upd (A 20) (x).toNatClampNeg v := by rw [e]; exact va_up_self _ _ _
  have oth : ∀ j, j ≠ 20 → A' j = A j := fun j hj => by rw [e]; exact va_up_ne _ _ hj
  refine ⟨⟨hI, by rw [e]; exact tk_u hA (show (0 : Int) ≤ v.toInt by omega) (show v.toInt ≤ (65535 : Int) by omega)⟩, ⟨(tx_fr rfl (oth 2 (by decide))).trans h2, hN⟩, h3, h4, fun j j1 j2 => (oth j j1).trans (h5 j j1 j2), fun i hi => ?_, fun i hi => by rw [oth 22 (by decide)]; exact h7 i hi, fun hk => ⟨fun i i0 i1 i2 => ?_, fun i i0 i1 i2 => by rw [oth 22 (by decide)]; exact (h8 hk).2 i i0 i1 i2⟩, h9⟩
  · rw [at20, upd_ne (by rw [xn]; omega)]
    exact h6 i hi
  · rw [app_len] at i1
    rw [at20, wA_app]
    by_cases ei : i = (u.length : Int)
    · rw [if_pos ei, ei, ← xn, upd_self]; exact hv
    · rw [if_neg ei, upd_ne (by rw [xn]; omega)]
      exact (h8 hk).1 i i0 (by omega) i2
theorem tgi_v1 {c x v : Int32} (h : TGi I0 A0 I A ch N p g k u w) (hl : (w.length : Int) < 96) (hk : k ≠ 8) (hc : 0 ≤ c.toInt ∧ c.toInt ≤ 127) (hv : v.toInt = c.toInt) (hx : x.toInt = 768 * g + 96 * k + (w.length : Int)) (e : A' = va_up A 22 (upd (A 22) (x).toNatClampNeg v)) : TGi I0 A0 I A' ch N p g k u (w ++ [c.toInt]) := by
  obtain ⟨⟨hI, hA⟩, ⟨h2, hN⟩, h3, h4, h5, h6, h7, h8, h9⟩ := h
  have xn : x.toNatClampNeg = (768 * g + 96 * k + (w.length : Int)).toNat := by rw [← hx]; rfl
  have at22 : A' 22 = upd (A 22) (x).toNatClampNeg v := by rw [e]; exact va_up_self _ _ _
  have oth : ∀ j, j ≠ 22 → A' j = A j := fun j hj => by rw [e]; exact va_up_ne _ _ hj
  refine ⟨⟨hI, by rw [e]; exact tk_u hA (show (0 : Int) ≤ v.toInt by omega) (show v.toInt ≤ (65535 : Int) by omega)⟩, ⟨(tx_fr rfl (oth 2 (by decide))).trans h2, hN⟩, h3, h4, fun j j1 j2 => (oth j j2).trans (h5 j j1 j2), fun i hi => by rw [oth 20 (by decide)]; exact h6 i hi, fun i hi => ?_, fun hk => ⟨fun i i0 i1 i2 => by rw [oth 20 (by decide)]; exact (h8 hk).1 i i0 i1 i2, fun i i0 i1 i2 => ?_⟩, h9⟩
  · rw [at22, upd_ne (by rw [xn]; omega)]
    exact h7 i hi
  · rw [app_len] at i1
    rw [at22, wA_app]
    by_cases ei : i = (w.length : Int)
    · rw [if_pos ei, ei, ← xn, upd_self]; exact hv
    · rw [if_neg ei, upd_ne (by rw [xn]; omega)]
      exact (h8 hk).2 i i0 (by omega) i2
theorem v_fault (h1 : 0 ≤ x1.toInt ∧ x1.toInt ≤ 10) (h2 : 0 ≤ x2.toInt ∧ x2.toInt ≤ 100000) (hf : f_fault x1 x2 I A = some o) : o.1.toInt = 10000 * x1.toInt + x2.toInt := by
  have hf : f_fault_0 x1 x2 I A = some o := hf
  unfold f_fault_0 at hf
  obtain ⟨v1, e_v1, hf⟩ := m_bndE hf
  have t_v1 : v1.toInt = 10000 * x1.toInt := ti_mul e_v1 (show (10000 : Int32).toInt = 10000 from rfl) rfl (by omega) (by omega)
  obtain ⟨v2, e_v2, hf⟩ := m_bndE hf
  have t_v2 : v2.toInt = v1.toInt + x2.toInt := ti_add e_v2 rfl rfl (by omega) (by omega)
  cases hf
  try dsimp only
  omega
/-- the name's loop -/
theorem rt_71 (hN : N ≤ 2000) (h0 : 0 ≤ a) (h1 : x1.toInt = g) (h3 : x3.toInt = k) (h4 : x4.toInt = 0 ∨ x4.toInt = 1) (h48 : x4.toInt = 1 ↔ k = 8) : ∀ (n : Nat) (x5 : Int32) (I : Nat → Int32) (A : Nat → Nat → Int32) (c : Nat), x5.toInt = (c : Int) → TGi I0 A0 I A ch N (a + (c : Int)) g k (wr ch a c) w → (∀ j, a ≤ j → j < a + (c : Int) → nmC (ch j)) → a + (c : Int) ≤ 2003 → f_readTag_71 n x1 x2 x3 x4 x5 I A = some o → ∃ b q I1 A1, ∃ y : Int32, NM ch a b ∧ BL ch b q ∧ TGi I0 A0 I1 A1 ch N q g k (wr ch a (b - a).toNat) w ∧ y.toInt = b - a ∧ ((ch q ≠ 34 ∧ o.1.toInt = 10000 + q) ∨ (ch q = 34 ∧ ∃ I8, TGi I0 A0 I8 A1 ch N (q + 1) g k (wr ch a (b - a).toNat) w ∧ f_readTag_175 mFuel x1 x2 x3 x4 y 0 I8 A1 = some o)) := by
  intro n
  induction n with
  | zero => intro x5 I A c _ _ _ _ hf; cases hf
  | succ n ih =>
    intro x5 I A c hx5 h hd hac hf
    have hf : f_readTag_71s (f_readTag_71 n) x1 x2 x3 x4 x5 I A = some o := hf
    obtain ⟨hIA, ⟨hc, hn⟩, ⟨h37, hp⟩, -, -, -, -, -, ⟨hg, hk0, hk8⟩, hcb⟩ := id h
    have b0 := hcb (a + (c : Int))
    have cl := wr_len (ch := ch) (a := a) c
    have z0 : (0 : Int32).toInt = 0 := rfl
    have z1 : (1 : Int32).toInt = 1 := rfl
    have ins : nmC (ch (a + (c : Int))) → a + (c : Int) < N := fun hs => by
      by_cases e : a + (c : Int) < N
      · exact e
      · have : ch (a + (c : Int)) = 0 := by rw [← hc]; exact tx_out (by omega)
        rw [this] at hs
        unfold nmC isL isD at hs
        omega
    have go : ∀ A1, nmC (ch (a + (c : Int))) → TGi I0 A0 I A1 ch N (a + (c : Int)) g k (wr ch a (c + 1)) w → f_readTag_124 (f_readTag_71 n) x1 x2 x3 x4 x5 I A1 = some o → ∃ b q I1 A1, ∃ y : Int32, NM ch a b ∧ BL ch b q ∧ TGi I0 A0 I1 A1 ch N q g k (wr ch a (b - a).toNat) w ∧ y.toInt = b - a ∧ ((ch q ≠ 34 ∧ o.1.toInt = 10000 + q) ∨ (ch q = 34 ∧ ∃ I8, TGi I0 A0 I8 A1 ch N (q + 1) g k (wr ch a (b - a).toNat) w ∧ f_readTag_175 mFuel x1 x2 x3 x4 y 0 I8 A1 = some o)) := by
      intro A1 hs G1 hf
      have hin := ins hs
      unfold f_readTag_124 at hf
      obtain ⟨v1, e1, hf⟩ := m_bndE hf
      obtain ⟨v2, e2, hf⟩ := m_bndE hf
      obtain ⟨I3, e3, hf⟩ := m_bndE hf
      have t1 : v1.toInt = x5.toInt + 1 := ti_add e1 rfl (show (1 : Int32).toInt = 1 from rfl) (by omega) (by omega)
      have t2 : v2.toInt = (I 37).toInt + 1 := ti_add e2 rfl (show (1 : Int32).toInt = 1 from rfl) (by omega) (by omega)
      have G3 : TGi I0 A0 I3 A1 ch N (a + ((c + 1 : Nat) : Int)) g k (wr ch a (c + 1)) w := tgi_at G1 e3 (by omega) (by omega)
      refine ih v1 I3 A1 (c + 1) (by omega) G3 (fun j j0 j1 => ?_) (by omega) hf
      by_cases e : j = a + (c : Int)
      · rw [e]; exact hs
      · exact hd j j0 (by omega)
    have more : nmC (ch (a + (c : Int))) → f_readTag_91 (f_readTag_71 n) x1 x2 x3 x4 x5 I A = some o → ∃ b q I1 A1, ∃ y : Int32, NM ch a b ∧ BL ch b q ∧ TGi I0 A0 I1 A1 ch N q g k (wr ch a (b - a).toNat) w ∧ y.toInt = b - a ∧ ((ch q ≠ 34 ∧ o.1.toInt = 10000 + q) ∨ (ch q = 34 ∧ ∃ I8, TGi I0 A0 I8 A1 ch N (q + 1) g k (wr ch a (b - a).toNat) w ∧ f_readTag_175 mFuel x1 x2 x3 x4 y 0 I8 A1 = some o)) := by
      intro hs hf
      have hin := ins hs
      unfold f_readTag_91 at hf
      rcases m_ifE hf with ⟨c1, hf⟩ | ⟨c1, hf⟩
      · skip
        replace c1 := ti_leP (a := (12 : Int32)) (b := x5) c1 (show (12 : Int32).toInt = 12 from rfl) rfl
        exact go A hs (tgi_n0 h (Or.inr (by omega))) hf
      · skip
        replace c1 := ti_leN (a := (12 : Int32)) (b := x5) c1 (show (12 : Int32).toInt = 12 from rfl) rfl
        rcases m_ifE hf with ⟨c2, hf⟩ | ⟨c2, hf⟩
        · skip
          replace c2 := ti_eqP (a := x4) (b := (0 : Int32)) c2 rfl (show (0 : Int32).toInt = 0 from rfl)
          obtain ⟨v1, e_v1, hf⟩ := m_bndE hf
          have t_v1 : v1.toInt = 96 * x1.toInt := ti_mul e_v1 (show (96 : Int32).toInt = 96 from rfl) rfl (by omega) (by omega)
          obtain ⟨v2, e_v2, hf⟩ := m_bndE hf
          have t_v2 : v2.toInt = 12 * x3.toInt := ti_mul e_v2 (show (12 : Int32).toInt = 12 from rfl) rfl (by omega) (by omega)
          obtain ⟨v3, e_v3, hf⟩ := m_bndE hf
          have t_v3 : v3.toInt = v1.toInt + v2.toInt := ti_add e_v3 rfl rfl (by omega) (by omega)
          obtain ⟨v4, e_v4, hf⟩ := m_bndE hf
          have t_v4 : v4.toInt = v3.toInt + x5.toInt := ti_add e_v4 rfl rfl (by omega) (by omega)
          obtain ⟨r5, h_r5, hf⟩ := m_clR hf (fun _ h => rro_look h)
          have p_r5 := pc_look h_r5
          dsimp only at p_r5
          have q5 := tgi_lk h h_r5
          dsimp only at q5
          clear p_r5
          obtain ⟨-, hf⟩ := m_chkE hf
          obtain ⟨A6, e_A6, hf⟩ := m_bndE hf
          have n5 : (vp_nar .char r5).toInt = r5.toInt := nar_ci rfl (by omega) (by omega)
          have G6 := tgi_n1 (c := r5) h (by omega) (by omega) (by omega) n5 (by omega) e_A6
          rw [q5] at G6
          exact go A6 hs G6 hf
        · skip
          replace c2 := ti_eqN (a := x4) (b := (0 : Int32)) c2 rfl (show (0 : Int32).toInt = 0 from rfl)
          exact go A hs (tgi_n0 h (Or.inl (by omega))) hf
    unfold f_readTag_71s at hf
    obtain ⟨r1, h_r1, hf⟩ := m_clR hf (fun _ h => rro_look h)
    have p_r1 := pc_look h_r1
    dsimp only at p_r1
    have q1 := tgi_lk h h_r1
    dsimp only at q1
    clear p_r1
    obtain ⟨r2, h_r2, hf⟩ := m_clR hf (fun _ h => rro_isLetter h)
    have p_r2 := pc_isLetter h_r2
    dsimp only at p_r2
    rw [q1] at p_r2
    rcases m_ifE hf with ⟨c1, hf⟩ | ⟨c1, hf⟩
    · skip
      replace c1 := ti_eqP (a := r2) (b := (0 : Int32)) c1 rfl (show (0 : Int32).toInt = 0 from rfl)
      obtain ⟨r3, h_r3, hf⟩ := m_clR hf (fun _ h => rro_look h)
      have p_r3 := pc_look h_r3
      dsimp only at p_r3
      have q3 := tgi_lk h h_r3
      dsimp only at q3
      clear p_r3
      obtain ⟨r4, h_r4, hf⟩ := m_clR hf (fun _ h => rro_isDigit h)
      have p_r4 := pc_isDigit h_r4
      dsimp only at p_r4
      rw [q3] at p_r4
      rcases m_ifE hf with ⟨c2, hf⟩ | ⟨c2, hf⟩
      · skip
        replace c2 := ti_eqP (a := r4) (b := (0 : Int32)) c2 rfl (show (0 : Int32).toInt = 0 from rfl)
        obtain ⟨⟨r5, Ic5, Ac5⟩, h_r5, hf⟩ := m_clE hf
        dsimp only at hf
        obtain ⟨q, g1, G5, g5⟩ := tgi_bl h hN h_r5
        dsimp only at G5
        have nn : ¬ nmC (ch (a + (c : Int))) := fun gg => by
          rcases gg with gg | gg
          · have := p_r2.2.2 gg; omega
          · have := p_r4.2.2 gg; omega
        have ec : (a + (c : Int) - a).toNat = c := by omega
        have h537 := G5.2.2.1
        obtain ⟨r6, h_r6, hf⟩ := m_clR hf (fun _ h => rro_look h)
        have p_r6 := pc_look h_r6
        dsimp only at p_r6
        have q6 := tgi_lk G5 h_r6
        dsimp only at q6
        clear p_r6
        rcases m_ifE hf with ⟨c3, hf⟩ | ⟨c3, hf⟩
        · skip
          replace c3 := ti_eqP (a := r6) (b := (34 : Int32)) c3 rfl (show (34 : Int32).toInt = 34 from rfl)
          obtain ⟨v7, e_v7, hf⟩ := m_bndE hf
          have t_v7 : v7.toInt = (Ic5 37).toInt + 1 := ti_add e_v7 rfl (show (1 : Int32).toInt = 1 from rfl) (by omega) (by omega)
          obtain ⟨I8, e_I8, hf⟩ := m_bndE hf
          have G8 : TGi I0 A0 I8 Ac5 ch N (q + 1) g k (wr ch a c) w := tgi_at G5 e_I8 (by omega) (by omega)
          exact ⟨a + (c : Int), q, Ic5, Ac5, x5, ⟨by omega, hd, nn⟩, g1, by rw [ec]; exact G5, by omega, Or.inr ⟨by omega, I8, by rw [ec]; exact G8, hf⟩⟩
        · skip
          replace c3 := ti_eqN (a := r6) (b := (34 : Int32)) c3 rfl (show (34 : Int32).toInt = 34 from rfl)
          obtain ⟨r9, h_r9, hf⟩ := m_clR hf (fun _ h => rro_fault h)
          have q9 := v_fault (x1 := 1) (x2 := Ic5 37) (by decide) (by omega) h_r9
          dsimp only at q9
          cases hf
          try dsimp only
          exact ⟨a + (c : Int), q, Ic5, Ac5, x5, ⟨by omega, hd, nn⟩, g1, by rw [ec]; exact G5, by omega, Or.inl ⟨by omega, by omega⟩⟩
      · skip
        replace c2 := ti_eqN (a := r4) (b := (0 : Int32)) c2 rfl (show (0 : Int32).toInt = 0 from rfl)
        exact more (Or.inr (p_r4.2.1 (by omega))) hf
    · skip
      replace c1 := ti_eqN (a := r2) (b := (0 : Int32)) c1 rfl (show (0 : Int32).toInt = 0 from rfl)
      exact more (Or.inl (p_r2.2.1 (by omega))) hf
/-- the value's loop -/
theorem rt_175 (hN : N ≤ 2000) (h1 : x1.toInt = g) (h3 : x3.toInt = k) (h4 : x4.toInt = 0 ∨ x4.toInt = 1) (h48 : x4.toInt = 1 ↔ k = 8) : ∀ (n : Nat) (x6 : Int32) (I : Nat → Int32) (A : Nat → Nat → Int32) (c : Nat) (p : Int) (w : List Int), x6.toInt = (w.length : Int) → TGi I0 A0 I A ch N p g k u w → N < p + (c : Int) → 1 ≤ c → p ≤ N → (w.length : Int) ≤ p → f_readTag_175 n x1 x2 x3 x4 x5 x6 I A = some o → ((vlP ch N c p w).1 = false ∧ o.1.toInt = 10000 + (vlP ch N c p w).2.1) ∨ ((vlP ch N c p w).1 = true ∧ ∃ q I1 A1 n1, ∃ y : Int32, q + 1 = (vlP ch N c p w).2.1 ∧ q < N ∧ ch q = 34 ∧ y.toInt = ((vlP ch N c p w).2.2.length : Int) ∧ TGi I0 A0 I1 A1 ch N q g k u (vlP ch N c p w).2.2 ∧ f_readTag_175s (f_readTag_175 n1) x1 x2 x3 x4 x5 y I1 A1 = some o) := by
  intro n
  induction n with
  | zero => intro x6 I A c p w _ _ _ _ _ _ hf; cases hf
  | succ n ih =>
    intro x6 I A c p w h6 h hk hk1 hpN hwl hf
    have hf : f_readTag_175s (f_readTag_175 n) x1 x2 x3 x4 x5 x6 I A = some o := hf
    obtain ⟨c2, rfl⟩ : ∃ c2, c = c2 + 1 := ⟨c - 1, by omega⟩
    obtain ⟨hIA, ⟨hc, hn⟩, ⟨h37, hp⟩, -, -, -, -, -, ⟨hg, hk0, hk8⟩, hcb⟩ := id h
    have b0 := hcb p
    have b1 := hcb (p + 1)
    have z0 : (0 : Int32).toInt = 0 := rfl
    have z1 : (1 : Int32).toInt = 1 := rfl
    have out : ∀ i, ch i ≠ 0 → 0 ≤ i → i < N := fun i hi i0 => by
      by_cases e : i < N
      · exact e
      · exact absurd (by rw [← hc]; exact tx_out (by omega)) hi
    have nil0 : N ≤ p → ch p = 0 := fun e => by rw [← hc]; exact tx_out (by omega)
    have cont : ∀ I1 p', TGi I0 A0 I1 A ch N p' g k u w → (p ≤ p' ∧ p' ≤ p + 1) → ch p' ≠ 10 → p' < N → vlP ch N (c2 + 1) p w = vlP ch N c2 (p' + 1) (w ++ [ch p']) → f_readTag_230 (f_readTag_175 n) x1 x2 x3 x4 x5 x6 I1 A = some o → ((vlP ch N (c2 + 1) p w).1 = false ∧ o.1.toInt = 10000 + (vlP ch N (c2 + 1) p w).2.1) ∨ ((vlP ch N (c2 + 1) p w).1 = true ∧ ∃ q I1 A1 n1, ∃ y : Int32, q + 1 = (vlP ch N (c2 + 1) p w).2.1 ∧ q < N ∧ ch q = 34 ∧ y.toInt = ((vlP ch N (c2 + 1) p w).2.2.length : Int) ∧ TGi I0 A0 I1 A1 ch N q g k u (vlP ch N (c2 + 1) p w).2.2 ∧ f_readTag_175s (f_readTag_175 n1) x1 x2 x3 x4 x5 y I1 A1 = some o) := by
      intro I1 p' G hpp n10 hlt er hf
      obtain ⟨-, ⟨-, hn1⟩, ⟨h137, hp1⟩, -⟩ := id G
      have b2 := hcb p'
      rw [er]
      have go : ∀ A1, TGi I0 A0 I1 A1 ch N p' g k u (w ++ [ch p']) → f_readTag_293 (f_readTag_175 n) x1 x2 x3 x4 x5 x6 I1 A1 = some o → ((vlP ch N c2 (p' + 1) (w ++ [ch p'])).1 = false ∧ o.1.toInt = 10000 + (vlP ch N c2 (p' + 1) (w ++ [ch p'])).2.1) ∨ ((vlP ch N c2 (p' + 1) (w ++ [ch p'])).1 = true ∧ ∃ q I1 A1 n1, ∃ y : Int32, q + 1 = (vlP ch N c2 (p' + 1) (w ++ [ch p'])).2.1 ∧ q < N ∧ ch q = 34 ∧ y.toInt = ((vlP ch N c2 (p' + 1) (w ++ [ch p'])).2.2.length : Int) ∧ TGi I0 A0 I1 A1 ch N q g k u (vlP ch N c2 (p' + 1) (w ++ [ch p'])).2.2 ∧ f_readTag_175s (f_readTag_175 n1) x1 x2 x3 x4 x5 y I1 A1 = some o) := by
        intro A1 G1 hf
        unfold f_readTag_293 at hf
        obtain ⟨v1, e1, hf⟩ := m_bndE hf
        obtain ⟨v2, e2, hf⟩ := m_bndE hf
        obtain ⟨I3, e3, hf⟩ := m_bndE hf
        have t1 : v1.toInt = x6.toInt + 1 := ti_add e1 rfl (show (1 : Int32).toInt = 1 from rfl) (by omega) (by omega)
        have t2 : v2.toInt = (I1 37).toInt + 1 := ti_add e2 rfl (show (1 : Int32).toInt = 1 from rfl) (by omega) (by omega)
        have G3 : TGi I0 A0 I3 A1 ch N (p' + 1) g k u (w ++ [ch p']) := tgi_at G1 e3 (by omega) (by omega)
        have al := app_len (u := w) (c := ch p')
        exact ih v1 I3 A1 c2 (p' + 1) (w ++ [ch p']) (by omega) G3 (by omega) (by omega) (by omega) (by omega) hf
      unfold f_readTag_230 at hf
      rcases m_ifE hf with ⟨c1, hf⟩ | ⟨c1, hf⟩
      · skip
        replace c1 := ti_eqP (a := (I1 37)) (b := (I1 1)) c1 rfl rfl
        omega
      · skip
        replace c1 := ti_eqN (a := (I1 37)) (b := (I1 1)) c1 rfl rfl
        obtain ⟨r1, h_r1, hf⟩ := m_clR hf (fun _ h => rro_look h)
        have p_r1 := pc_look h_r1
        dsimp only at p_r1
        have q1 := tgi_lk G h_r1
        dsimp only at q1
        clear p_r1
        rcases m_ifE hf with ⟨c2, hf⟩ | ⟨c2, hf⟩
        · skip
          replace c2 := ti_eqP (a := r1) (b := (10 : Int32)) c2 rfl (show (10 : Int32).toInt = 10 from rfl)
          omega
        · skip
          replace c2 := ti_eqN (a := r1) (b := (10 : Int32)) c2 rfl (show (10 : Int32).toInt = 10 from rfl)
          rcases m_ifE hf with ⟨c3, hf⟩ | ⟨c3, hf⟩
          · skip
            replace c3 := ti_leP (a := (96 : Int32)) (b := x6) c3 (show (96 : Int32).toInt = 96 from rfl) rfl
            exact go A (tgi_v0 G (Or.inr (by omega))) hf
          · skip
            replace c3 := ti_leN (a := (96 : Int32)) (b := x6) c3 (show (96 : Int32).toInt = 96 from rfl) rfl
            rcases m_ifE hf with ⟨c4, hf⟩ | ⟨c4, hf⟩
            · skip
              replace c4 := ti_eqP (a := x4) (b := (0 : Int32)) c4 rfl (show (0 : Int32).toInt = 0 from rfl)
              obtain ⟨v2, e_v2, hf⟩ := m_bndE hf
              have t_v2 : v2.toInt = 768 * x1.toInt := ti_mul e_v2 (show (768 : Int32).toInt = 768 from rfl) rfl (by omega) (by omega)
              obtain ⟨v3, e_v3, hf⟩ := m_bndE hf
              have t_v3 : v3.toInt = 96 * x3.toInt := ti_mul e_v3 (show (96 : Int32).toInt = 96 from rfl) rfl (by omega) (by omega)
              obtain ⟨v4, e_v4, hf⟩ := m_bndE hf
              have t_v4 : v4.toInt = v2.toInt + v3.toInt := ti_add e_v4 rfl rfl (by omega) (by omega)
              obtain ⟨v5, e_v5, hf⟩ := m_bndE hf
              have t_v5 : v5.toInt = v4.toInt + x6.toInt := ti_add e_v5 rfl rfl (by omega) (by omega)
              obtain ⟨r6, h_r6, hf⟩ := m_clR hf (fun _ h => rro_look h)
              have p_r6 := pc_look h_r6
              dsimp only at p_r6
              have q6 := tgi_lk G h_r6
              dsimp only at q6
              clear p_r6
              obtain ⟨-, hf⟩ := m_chkE hf
              obtain ⟨A7, e_A7, hf⟩ := m_bndE hf
              have n6 : (vp_nar .char r6).toInt = r6.toInt := nar_ci rfl (by omega) (by omega)
              have G7 := tgi_v1 (c := r6) G (by omega) (by omega) (by omega) n6 (by omega) e_A7
              rw [q6] at G7
              exact go A7 G7 hf
            · skip
              replace c4 := ti_eqN (a := x4) (b := (0 : Int32)) c4 rfl (show (0 : Int32).toInt = 0 from rfl)
              exact go A (tgi_v0 G (Or.inl (by omega))) hf
    have hf' := hf
    unfold f_readTag_175s at hf
    obtain ⟨r1, h_r1, hf⟩ := m_clR hf (fun _ h => rro_look h)
    have p_r1 := pc_look h_r1
    dsimp only at p_r1
    have q1 := tgi_lk h h_r1
    dsimp only at q1
    clear p_r1
    rcases m_ifE hf with ⟨c1, hf⟩ | ⟨c1, hf⟩
    · skip
      replace c1 := ti_eqP (a := r1) (b := (34 : Int32)) c1 rfl (show (34 : Int32).toInt = 34 from rfl)
      have e34 : ch p = 34 := by omega
      rw [vl_q e34]
      exact Or.inr ⟨rfl, p, I, A, n, x6, rfl, out p (by omega) (by omega), e34, h6, h, hf'⟩
    · skip
      replace c1 := ti_eqN (a := r1) (b := (34 : Int32)) c1 rfl (show (34 : Int32).toInt = 34 from rfl)
      obtain ⟨r24, h_r24, hf⟩ := m_clR hf (fun _ h => rro_look h)
      have p_r24 := pc_look h_r24
      dsimp only at p_r24
      have q24 := tgi_lk h h_r24
      dsimp only at q24
      clear p_r24
      rcases m_ifE hf with ⟨c2, hf⟩ | ⟨c2, hf⟩
      · skip
        replace c2 := ti_eqP (a := r24) (b := (92 : Int32)) c2 rfl (show (92 : Int32).toInt = 92 from rfl)
        obtain ⟨v25, e_v25, hf⟩ := m_bndE hf
        have t_v25 : v25.toInt = (I 37).toInt + 1 := ti_add e_v25 rfl (show (1 : Int32).toInt = 1 from rfl) (by omega) (by omega)
        obtain ⟨I26, e_I26, hf⟩ := m_bndE hf
        have pin := out p (by omega) (by omega)
        have G26 : TGi I0 A0 I26 A ch N (p + 1) g k u w := tgi_at h e_I26 (by omega) (by omega)
        have h2637 := G26.2.2.1
        obtain ⟨r27, h_r27, hf⟩ := m_clR hf (fun _ h => rro_look h)
        have p_r27 := pc_look h_r27
        dsimp only at p_r27
        have q27 := tgi_lk G26 h_r27
        dsimp only at q27
        clear p_r27
        rcases m_ifE hf with ⟨c3, hf⟩ | ⟨c3, hf⟩
        · skip
          replace c3 := ti_eqP (a := r27) (b := (34 : Int32)) c3 rfl (show (34 : Int32).toInt = 34 from rfl)
          exact cont I26 (p + 1) G26 (by omega) (by omega) (out (p + 1) (by omega) (by omega)) (by rw [vl_e (by omega) (Or.inl (by omega)), show p + 1 + 1 = p + 2 by omega]) hf
        · skip
          replace c3 := ti_eqN (a := r27) (b := (34 : Int32)) c3 rfl (show (34 : Int32).toInt = 34 from rfl)
          obtain ⟨r28, h_r28, hf⟩ := m_clR hf (fun _ h => rro_look h)
          have p_r28 := pc_look h_r28
          dsimp only at p_r28
          have q28 := tgi_lk G26 h_r28
          dsimp only at q28
          clear p_r28
          rcases m_ifE hf with ⟨c4, hf⟩ | ⟨c4, hf⟩
          · skip
            replace c4 := ti_eqP (a := r28) (b := (92 : Int32)) c4 rfl (show (92 : Int32).toInt = 92 from rfl)
            exact cont I26 (p + 1) G26 (by omega) (by omega) (out (p + 1) (by omega) (by omega)) (by rw [vl_e (by omega) (Or.inr (by omega)), show p + 1 + 1 = p + 2 by omega]) hf
          · skip
            replace c4 := ti_eqN (a := r28) (b := (92 : Int32)) c4 rfl (show (92 : Int32).toInt = 92 from rfl)
            obtain ⟨r29, h_r29, hf⟩ := m_clR hf (fun _ h => rro_fault h)
            have q29 := v_fault (x1 := 1) (x2 := I26 37) (by decide) (by omega) h_r29
            dsimp only at q29
            cases hf
            try dsimp only
            rw [vl_f (by omega) (by omega)]
            exact Or.inl ⟨rfl, by show r29.toInt = 10000 + (p + 1); omega⟩
      · skip
        replace c2 := ti_eqN (a := r24) (b := (92 : Int32)) c2 rfl (show (92 : Int32).toInt = 92 from rfl)
        by_cases cx : N ≤ p ∨ ch p = 10
        · rw [vl_n (by omega) (by omega) cx]
          refine Or.inl ⟨rfl, ?_⟩
          show o.1.toInt = 10000 + p
          have f250 : f_readTag_250 I A = some o → o.1.toInt = 10000 + p := fun hf => by
            unfold f_readTag_250 at hf
            obtain ⟨⟨r1, I1, A1⟩, h_r1, hf⟩ := m_clE hf
            dsimp only at hf
            have q9 := v_fault (x1 := 1) (x2 := I 37) (by decide) (by omega) h_r1
            dsimp only at q9
            cases hf
            show r1.toInt = _
            omega
          unfold f_readTag_230 at hf
          rcases m_ifE hf with ⟨c9, hf⟩ | ⟨c9, hf⟩
          · exact f250 hf
          · replace c9 := ti_eqN (a := I 37) (b := I 1) c9 rfl rfl
            obtain ⟨r9, h_r9, hf⟩ := m_clR hf (fun _ h => rro_look h)
            have q9 := tgi_lk h h_r9
            dsimp only at q9
            rcases m_ifE hf with ⟨c10, hf⟩ | ⟨c10, hf⟩
            · exact f250 hf
            · replace c10 := ti_eqN (a := r9) (b := (10 : Int32)) c10 rfl (show (10 : Int32).toInt = 10 from rfl)
              omega
        · exact cont I p h (by omega) (by omega) (by omega) (vl_s (by omega) (by omega) cx) hf
end TGS
