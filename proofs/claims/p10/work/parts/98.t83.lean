/-- a result lies within the text -/
theorem rsV_N {ch : Int → Int} {N p : Int} (hz : ∀ i, N ≤ i → ch i = 0) (h : rsV ch p ≠ -1) : p + rsN (rsV ch p) ≤ N := by
  have lt : ∀ i, ch i ≠ 0 → i < N := fun i hi => Int.not_le.1 (fun e => hi (hz i e))
  rw [rsN_v]
  unfold rsV at h ⊢
  by_cases c1 : ch p = 42
  · rw [if_pos c1]
    have := lt p (by omega)
    rw [if_neg (by decide), if_neg (by decide), if_neg (by decide)]
    omega
  · rw [if_neg c1] at h ⊢
    by_cases c2 : ch p = 49 ∧ ch (p + 1) = 45 ∧ ch (p + 2) = 48
    · rw [if_pos c2]
      have := lt (p + 2) (by omega)
      rw [if_pos rfl]
      omega
    · rw [if_neg c2] at h ⊢
      by_cases c3 : ch p = 48 ∧ ch (p + 1) = 45 ∧ ch (p + 2) = 49
      · rw [if_pos c3]
        have := lt (p + 2) (by omega)
        rw [if_neg (by decide), if_pos rfl]
        omega
      · rw [if_neg c3] at h ⊢
        by_cases c4 : (ch p = 49 ∧ ch (p + 1) = 47 ∧ ch (p + 2) = 50) ∧ ch (p + 3) = 45 ∧ ch (p + 4) = 49 ∧ ch (p + 5) = 47 ∧ ch (p + 6) = 50
        · rw [if_pos c4]
          have := lt (p + 6) (by omega)
          rw [if_neg (by decide), if_neg (by decide), if_pos rfl]
          omega
        · rw [if_neg c4] at h
          exact absurd rfl h
/-- a game of the reference, whole -/
noncomputable def GMr (A : Nat → Nat → Int32) (g : Nat) (L : List (List Int × List Int)) (st : PO) (T : TRa) (r : Int) : Prop := (TRr A g T ∧ WT T ∧ LTr st T) ∧ SPp A g st ∧ TGr A (g : Int) L ∧ (A 23 g).toInt = r
section RGE
variable {I I0 : Nat → Int32} {A A0 : Nat → Nat → Int32} {g : Nat} {ch : Int → Int} {N p r : Int} {st : PO} {L : List (List Int × List Int)} {T : TRa} {o : Int32 × MS} {x1 x3 : Int32}
theorem rg_154 {t0 t1 : Int32} (h : RV I A ch N p) (hpN : p + r ≤ N) (h0 : t0.toInt = r) (h1 : t1.toInt = p) (hr : 0 ≤ r) (hf : f_readGame_154 t0 t1 I A = some o) : o.2.2 = A ∧ (∀ j, j ≠ 37 → o.2.1 j = I j) ∧ ((blk ch (p + r) = N ∧ o.1.toInt = 0) ∨ (blk ch (p + r) ≠ N ∧ 0 < o.1.toInt)) := by
  have hp := h.2.2.2.2
  have hN := h.2.1.2.2
  unfold f_readGame_154 at hf
  obtain ⟨v1, e1, hf⟩ := m_bndE hf
  have q1 : v1.toInt = t1.toInt + t0.toInt := ti_add e1 rfl rfl (by omega) (by omega)
  obtain ⟨I2, e2, hf⟩ := m_bndE hf
  have R2 : RV I2 A ch N (p + r) := rv_at h e2 (by omega) (by omega)
  obtain ⟨⟨r3, Ic3, Ac3⟩, h_r3, hf⟩ := m_clE hf
  dsimp only at hf
  obtain ⟨b1, b2, b3, b4, b5⟩ := rv_bl R2 h_r3
  dsimp only at b2 b3 b4
  have i3 : ∀ j, j ≠ 37 → Ic3 j = I j := fun j hj => by rw [b4 j hj, e2, upd_ne hj]
  have n3 : (Ic3 1).toInt = N := b2.2.1.2.1
  have p3 : (Ic3 37).toInt = blk ch (p + r) := b2.2.2.2.1
  rcases m_ifE hf with ⟨c1, hf⟩ | ⟨c1, hf⟩
  · replace c1 := ti_leP (a := Ic3 1) (b := Ic3 37) c1 rfl rfl
    unfold f_readGame_185 at hf
    cases hf
    exact ⟨b3, i3, Or.inl ⟨by omega, rfl⟩⟩
  · replace c1 := ti_leN (a := Ic3 1) (b := Ic3 37) c1 rfl rfl
    obtain ⟨r4, h_r4, hf⟩ := m_clR hf (fun _ h => rro_fault h)
    have z1 : (1 : Int32).toInt = 1 := rfl
    have q4 := v_fault (x1 := 1) (x2 := Ic3 37) (by decide) (by have := b1.1; omega) h_r4
    dsimp only at q4
    unfold f_readGame_185 at hf
    cases hf
    refine ⟨b3, i3, Or.inr ⟨by omega, ?_⟩⟩
    show 0 < r4.toInt
    have := b1.1
    omega
theorem rg_74 (h : RV I A ch N p) (hpN : p ≤ N) (hg : g ≤ 1) (h1 : x1.toInt = (g : Int)) (tg : TGr A (g : Int) L) (h3 : x3.toInt = rsV ch p) (hr : rsV ch p ≠ -1) : ∀ (n : Nat) (x4 : Int32), 0 ≤ x4.toInt → x4.toInt ≤ (L.length : Int) → (∀ i : Int, 0 ≤ i → i < x4.toInt → nmL L i = strL 10 → vlL L i = strL (rsS (rsV ch p))) → f_readGame_74 n x1 x3 x4 I A = some o → (AGr L (rsV ch p) ∧ blk ch (p + rsN (rsV ch p)) = N ∧ o.1.toInt = 0 ∧ (∀ j, j ≠ 23 → o.2.2 j = A j) ∧ (o.2.2 23 g).toInt = rsV ch p ∧ (∀ i, i ≠ g → o.2.2 23 i = A 23 i) ∧ ∀ j, j ≠ 37 → o.2.1 j = I j) ∨ (¬ (AGr L (rsV ch p) ∧ blk ch (p + rsN (rsV ch p)) = N) ∧ 0 < o.1.toInt) := by
  intro n
  induction n with
  | zero => intro x4 _ _ _ hf; cases hf
  | succ n ih =>
    intro x4 h40 h41 hs hf
    have hf : f_readGame_74s (f_readGame_74 n) x1 x3 x4 I A = some o := hf
    have rb := rsV_b (ch := ch) (p := p)
    have l8 := tg.2.1
    have hg2 : (g : Int) = 0 ∨ (g : Int) = 1 := by omega
    have xn : x1.toNatClampNeg = g := cl_n h1
    have hp := h.2.2.2.2
    have hN := h.2.1.2.2
    have h37 : (I 37).toInt = p := h.2.2.2.1
    have go : ∀ hq : nmL L x4.toInt = strL 10 → vlL L x4.toInt = strL (rsS (rsV ch p)), x4.toInt < (L.length : Int) → f_readGame_117 (f_readGame_74 n) x1 x3 x4 I A = some o → (AGr L (rsV ch p) ∧ blk ch (p + rsN (rsV ch p)) = N ∧ o.1.toInt = 0 ∧ (∀ j, j ≠ 23 → o.2.2 j = A j) ∧ (o.2.2 23 g).toInt = rsV ch p ∧ (∀ i, i ≠ g → o.2.2 23 i = A 23 i) ∧ ∀ j, j ≠ 37 → o.2.1 j = I j) ∨ (¬ (AGr L (rsV ch p) ∧ blk ch (p + rsN (rsV ch p)) = N) ∧ 0 < o.1.toInt) := fun hq hlt hf => by
      unfold f_readGame_117 at hf
      obtain ⟨v8, e8, hf⟩ := m_bndE hf
      have t8 : v8.toInt = x4.toInt + 1 := ti_add e8 rfl (show (1 : Int32).toInt = 1 from rfl) (by omega) (by omega)
      refine ih v8 (by omega) (by omega) (fun i i0 i1 => ?_) hf
      by_cases e : i = x4.toInt
      · rw [e]; exact hq
      · exact hs i i0 (by omega)
    unfold f_readGame_74s at hf
    obtain ⟨-, hf⟩ := m_chkE hf
    obtain ⟨v1, e1, hf⟩ := m_bndE hf
    have q1 : v1.toInt = (L.length : Int) := by rw [e1, xn]; exact tg.1
    rcases m_ifE hf with ⟨c1, hf⟩ | ⟨c1, hf⟩
    · replace c1 := ti_leP (a := v1) (b := x4) c1 rfl rfl
      have ag : AGr L (rsV ch p) := fun i i0 i1 => hs i i0 (by omega)
      obtain ⟨-, hf⟩ := m_chkE hf
      obtain ⟨A2, e2, hf⟩ := m_bndE hf
      rw [xn] at e2
      have o2 : ∀ j, j ≠ 23 → A2 j = A j := fun j hj => by rw [e2]; exact va_up_ne _ _ hj
      have s2 : A2 23 g = x3 := by rw [e2, va_up_self, upd_self]
      have u2 : ∀ i, i ≠ g → A2 23 i = A 23 i := fun i hi => by rw [e2, va_up_self, upd_ne hi]
      have hA2 : TK A2 := by rw [e2]; exact tk_u h.1.2 (show (-1 : Int) ≤ x3.toInt by omega) (show x3.toInt ≤ (3 : Int) by omega)
      have R2 : RV I A2 ch N p := rv_A h hA2 (o2 2 (by decide))
      have rn := rsV_N (N := N) (fun i hi => rv_out h hi) hr
      have nb := rsN_b (rsV ch p)
      have rv := rsN_v (rsV ch p)
      have fin : ∀ t0 : Int32, t0.toInt = rsN (rsV ch p) → f_readGame_154 t0 (I 37) I A2 = some o → (AGr L (rsV ch p) ∧ blk ch (p + rsN (rsV ch p)) = N ∧ o.1.toInt = 0 ∧ (∀ j, j ≠ 23 → o.2.2 j = A j) ∧ (o.2.2 23 g).toInt = rsV ch p ∧ (∀ i, i ≠ g → o.2.2 23 i = A 23 i) ∧ ∀ j, j ≠ 37 → o.2.1 j = I j) ∨ (¬ (AGr L (rsV ch p) ∧ blk ch (p + rsN (rsV ch p)) = N) ∧ 0 < o.1.toInt) := fun t0 ht hf => by
        obtain ⟨a1, a2, a3⟩ := rg_154 R2 rn ht h37 (Int.le_trans (by decide) nb.1) hf
        rcases a3 with ⟨a3, a4⟩ | ⟨a3, a4⟩
        · refine Or.inl ⟨ag, a3, a4, fun j hj => by rw [a1]; exact o2 j hj, by rw [a1, s2]; exact h3, fun i hi => by rw [a1]; exact u2 i hi, a2⟩
        · exact Or.inr ⟨fun hh => a3 hh.2, a4⟩
      rcases m_ifE hf with ⟨c2, hf⟩ | ⟨c2, hf⟩
      · replace c2 := ti_eqP (a := x3) (b := (0 : Int32)) c2 rfl (show (0 : Int32).toInt = 0 from rfl)
        refine fin 1 ?_ hf
        rw [rv, if_neg (by omega), if_neg (by omega), if_neg (by omega)]; rfl
      · replace c2 := ti_eqN (a := x3) (b := (0 : Int32)) c2 rfl (show (0 : Int32).toInt = 0 from rfl)
        rcases m_ifE hf with ⟨c3, hf⟩ | ⟨c3, hf⟩
        · replace c3 := ti_eqP (a := x3) (b := (3 : Int32)) c3 rfl (show (3 : Int32).toInt = 3 from rfl)
          refine fin 7 ?_ hf
          rw [rv, if_neg (by omega), if_neg (by omega), if_pos (by omega)]; rfl
        · replace c3 := ti_eqN (a := x3) (b := (3 : Int32)) c3 rfl (show (3 : Int32).toInt = 3 from rfl)
          refine fin 3 ?_ hf
          by_cases e1 : rsV ch p = 1
          · rw [rv, if_pos e1]; rfl
          · rw [rv, if_neg e1, if_pos (by omega)]; rfl
    · replace c1 := ti_leN (a := v1) (b := x4) c1 rfl rfl
      obtain ⟨n4, v4⟩ := tg.2.2 x4.toInt h40 (by omega)
      obtain ⟨r3, h_r3, hf⟩ := m_clR hf (fun _ h => rro_isTag h)
      obtain ⟨b3, q3⟩ := v_isTag (x3 := 1) n4 hg2 (by omega) rfl h1 (Or.inr ⟨rfl, rfl⟩) h_r3
      dsimp only at b3 q3
      rcases m_ifE hf with ⟨c2, hf⟩ | ⟨c2, hf⟩
      · replace c2 := ti_eqP (a := r3) (b := (0 : Int32)) c2 rfl (show (0 : Int32).toInt = 0 from rfl)
        exact go (fun e => by have := q3.2 e; omega) (by omega) hf
      · replace c2 := ti_eqN (a := r3) (b := (0 : Int32)) c2 rfl (show (0 : Int32).toInt = 0 from rfl)
        obtain ⟨r4, h_r4, hf⟩ := m_clR hf (fun _ h => rro_isResultValue h)
        obtain ⟨b4, q4⟩ := v_isResultValue v4 hg2 (by omega) h1 rfl (by omega) h_r4
        dsimp only at b4 q4
        rw [h3] at q4
        rcases m_ifE hf with ⟨c3, hf⟩ | ⟨c3, hf⟩
        · replace c3 := ti_eqP (a := r4) (b := (0 : Int32)) c3 rfl (show (0 : Int32).toInt = 0 from rfl)
          obtain ⟨r5, h_r5, hf⟩ := m_clR hf (fun _ h => rro_fault h)
          have z9 : (9 : Int32).toInt = 9 := rfl
          have q5 := v_fault (x1 := 9) (x2 := I 37) (by decide) (by omega) h_r5
          dsimp only at q5
          cases hf
          refine Or.inr ⟨fun hh => ?_, show 0 < r5.toInt by omega⟩
          have := q4.2 (hh.1 x4.toInt h40 (by omega) (q3.1 (by omega)))
          omega
        · replace c3 := ti_eqN (a := r4) (b := (0 : Int32)) c3 rfl (show (0 : Int32).toInt = 0 from rfl)
          exact go (fun _ => q4.1 (by omega)) (by omega) hf
theorem tgr_e {A' : Nat → Nat → Int32} (h : TGr A (g : Int) L) (e : ∀ j, 18 ≤ j → j ≤ 22 → A' j = A j) : TGr A' (g : Int) L := by
  unfold TGr NMr VLr at h ⊢
  rw [e 18 (by decide) (by decide), e 19 (by decide) (by decide), e 20 (by decide) (by decide), e 21 (by decide) (by decide), e 22 (by decide) (by decide)]
  exact h
/-- the reference reads a game -/
theorem v_readGame (hI : TJ I) (hA : TK A) (hc : txR I A = ch) (hn : (I 1).toInt = N) (hN : 0 ≤ N ∧ N ≤ 2000) (hcb : ∀ i, 0 ≤ ch i ∧ ch i ≤ 127) (hg : g ≤ 1) (h29 : (I 29).toInt ≤ 1999) (tg : TGr A (g : Int) []) (sp : SPp A g st00) (tr : TRr A g T00) (h1 : x1.toInt = (g : Int)) (hf : f_readGame x1 I A = some o) : (∃ L st T r, rdP ch N = some (L, st, T, r) ∧ o.1.toInt = 0 ∧ GMr o.2.2 g L st T r) ∨ (rdP ch N = none ∧ 0 < o.1.toInt) := by
  have hf : f_readGame_0 x1 I A = some o := hf
  have z0 : (0 : Int32).toInt = 0 := rfl
  unfold f_readGame_0 at hf
  obtain ⟨I1, e1, hf⟩ := m_bndE hf
  have j1 : I1 1 = I 1 := by rw [e1, upd_ne (by decide)]
  have R1 : RV I1 A ch N 0 := ⟨⟨by rw [e1]; exact tj_u hI (show (0 : Int) ≤ (0 : Int32).toInt by decide) (show (0 : Int32).toInt ≤ (2100 : Int) by decide), hA⟩, ⟨by rw [← hc]; funext i; unfold txR; rw [j1], by rw [j1]; exact hn, hN⟩, hcb, by rw [e1, upd_self]; rfl, by decide, by decide⟩
  obtain ⟨⟨r2, Ic2, Ac2⟩, h_r2, hf⟩ := m_clE hf
  dsimp only at hf
  obtain ⟨b1, b2, b3, b4, b5⟩ := rv_bl R1 h_r2
  dsimp only at b2 b3 b4
  rw [b3] at hf b2
  have i29 : Ic2 29 = I 29 := by rw [b4 29 (by decide), e1, upd_ne (by decide)]
  rcases rg_9 (o := o) h1 mFuel Ic2 A 9 (blk ch 0) [] st00 ⟨⟨b2, by omega, hg, by rw [i29]; exact h29⟩, tg, sp, ⟨tr, wt_00, rfl⟩, pgd_00, by decide, by decide⟩ (by decide) hf with ⟨r, I3, A3, a1, a2, a3⟩ | ⟨a1, a2⟩
  · have tg3 := a2.2.1
    unfold RGT at a3
    obtain ⟨⟨r4, Ic4, Ac4⟩, h_r4, hf⟩ := m_clE a3
    dsimp only at hf
    rcases rs_rk (rs_hr a2) h1 (x2 := 0) (k := 0) rfl (Nat.zero_le _) h_r4 with ⟨e, w, c1, c2, c3⟩ | ⟨c1, c2, c3⟩
    · dsimp only at c2 c3
      have c1 : rmkP ch N 2001 (blk ch r.1) [] = some (e, w) := c1
      rcases m_ifE hf with ⟨-, hf⟩ | ⟨k1, hf⟩
      · obtain ⟨⟨r5, Ic5, Ac5⟩, h_r5, hf⟩ := m_clE hf
        dsimp only at hf
        have h5 : fr_readLine 8 x1 0 0 Ic4 Ac4 = some (r5, Ic5, Ac5) := h_r5
        have hl := rl_all h1 8 0 0 Ic4 Ac4 0 [] e (rkT T00 0 w) _ rfl (Nat.zero_le _) rfl (by decide) c3 h5
        have ep : 0 ≤ e := c3.1.2.2.2.2.1
        rcases hl with ⟨d1, d2, d3⟩ | ⟨d1, e2, T', d2, d3, d4⟩
        · dsimp only at d1 d2
          refine Or.inr ⟨?_, ?_⟩
          · unfold rdP
            simp only [a1, c1, d3 2001 (show N < e + ((2001 : Nat) : Int) by omega)]
          · unfold f_readGame_59 at hf
            rcases m_ifE hf with ⟨k2, hf⟩ | ⟨k2, hf⟩
            · replace k2 := ti_leP (a := r5) (b := (0 : Int32)) k2 rfl (show (0 : Int32).toInt = 0 from rfl)
              omega
            · cases hf
              exact d1
        · dsimp only at d1 d2
          rcases d4 with ⟨-, d5, d6⟩ | ⟨d5, -⟩
          · have d7 := d6 2001 (show N < e + ((2001 : Nat) : Int) by omega)
            unfold f_readGame_59 at hf
            rcases m_ifE hf with ⟨-, hf⟩ | ⟨k2, hf⟩
            · obtain ⟨⟨r6, Ic6, Ac6⟩, h_r6, hf⟩ := m_clE hf
              dsimp only at hf
              obtain ⟨rv5, hp5, -, tr5, sp5, wl5, rd5, A5, I5⟩ := id d2
              obtain ⟨q6, q7⟩ := v_resultHere rv5.2.1.1 rv5.2.1.2.1 (by omega) rv5.2.2.2.1 (by have := rv5.2.2.2.2; omega) h_r6
              dsimp only at q6 q7
              have e6 : Ic6 = Ic5 := congrArg Prod.fst q6
              have e7 : Ac6 = Ac5 := congrArg Prod.snd q6
              rw [e6, e7] at hf
              have tg5 : TGr Ac5 (g : Int) r.2.1 := tgr_e tg3 (fun j j1 j2 => A5 j (by omega) (by omega))
              rcases rg_74 rv5 hp5 hg h1 tg5 q7 d5 mFuel 0 (by decide) (show (0 : Int) ≤ (r.2.1.length : Int) by omega) (fun i i0 i1 => by omega) hf with ⟨f1, f2, f3, f4, f5, f6, f7⟩ | ⟨f1, f2⟩
              · refine Or.inl ⟨r.2.1, r.2.2, T', rsV ch e2, ?_, f3, ⟨⟨trr_e hg (by have := wl5.1.1; omega) tr5 (by rw [f4 7 (by decide)]) (fun j hj => f4 j (by omega)), wl5⟩, ⟨?_, sp5.2⟩, tgr_e tg5 (fun j j1 j2 => f4 j (by omega)), f5⟩⟩
                · unfold rdP
                  simp only [a1, c1, d7]
                  exact if_pos ⟨f1, f2⟩
                · have s1 := sp5.1
                  unfold SPo at s1 ⊢
                  rw [f4 16 (by decide), f4 17 (by decide)]
                  exact s1
              · refine Or.inr ⟨?_, f2⟩
                unfold rdP
                simp only [a1, c1, d7]
                exact if_neg f1
            · replace k2 := ti_leN (a := r5) (b := (0 : Int32)) k2 rfl (show (0 : Int32).toInt = 0 from rfl)
              omega
          · exact absurd rfl d5
      · replace k1 := ti_leN (a := r4) (b := (0 : Int32)) k1 rfl (show (0 : Int32).toInt = 0 from rfl)
        omega
    · dsimp only at c2 c3
      have c1 : rmkP ch N 2001 (blk ch r.1) [] = none := c1
      rcases m_ifE hf with ⟨k1, hf⟩ | ⟨-, hf⟩
      · replace k1 := ti_leP (a := r4) (b := (0 : Int32)) k1 rfl (show (0 : Int32).toInt = 0 from rfl)
        omega
      · unfold f_readGame_59 at hf
        rcases m_ifE hf with ⟨k2, hf⟩ | ⟨k2, hf⟩
        · replace k2 := ti_leP (a := r4) (b := (0 : Int32)) k2 rfl (show (0 : Int32).toInt = 0 from rfl)
          omega
        · cases hf
          refine Or.inr ⟨?_, c2⟩
          unfold rdP
          simp only [a1, c1]
  · refine Or.inr ⟨?_, a2⟩
    unfold rdP
    simp only [a1]
end RGE
