section RMV
variable {S0 S S' : ZS} {g g' : Nat} {ch : Int → Int} {N p : Int} {st : PO} {T : TRa} {o : Int32 × ZS} {x1 x2 x3 : Int32}
/-- how the class's moves end -/
noncomputable def MCo (S0 : ZS) (g g' : Nat) (ch : Int → Int) (N : Int) (st : PO) (z : Option (Int × TRa)) (o : Int32 × ZS) : Prop := (∃ e T', z = some (e, T') ∧ o.1.toInt = 1 ∧ CSt S0 o.2 g g' ch N e st T' ∧ rsV ch e ≠ -1) ∨ (z = none ∧ o.1.toInt = 0 ∧ CSn S0 o.2 g g')
theorem rmv_34 : ∀ (n : Nat) (x1 x2 : Int32) (S : ZS) (p : Int) (T : TRa) (ro la : Nat) (rest : List (Nat × Nat)) (k : Nat), x1.toInt = (rest.length : Int) → rest.length ≤ 6 → x2.toInt = 2001 - (k : Int) → k ≤ 2001 → CSt S0 S g g' ch N p st T → SKs S st T ((ro, la) :: rest) → d_X2_readMoves_34 n 23 x1 x2 S = some o → MCo S0 g g' ch N st (mach ch N st k p ((ro, la) :: rest) T) o := by
  intro n
  induction n with
  | zero => intro x1 x2 S p T ro la rest k _ _ _ _ _ _ hf; cases hf
  | succ n ih =>
    intro x1 x2 S p T ro la rest k h1 hr6 h2 hk h hs hf
    have hf : d_X2_readMoves_34s (d_X2_readMoves_34 n) 23 x1 x2 S = some o := hf
    obtain ⟨c, ⟨hg, hX, hF0⟩, l, hpN, p3, tr, ⟨hw, hl⟩, i5⟩ := id h
    have h44 := l.2.2.2.2.1
    have hp0 := l.2.2.2.2.2
    have hn := l.2.2.1.2.2
    have xn : x1.toNatClampNeg = rest.length := cl_n h1
    have hgr := gg_g hg
    have l7 : ((ro, la) :: rest).length ≤ 7 := by show rest.length + 1 ≤ 7; omega
    have go : ∀ (S2 : ZS) (t0 : Int32), 1 ≤ k → CSt S0 S2 g g' ch N (blk ch p) st T → SKs S2 st T ((ro, la) :: rest) → (t0.toInt = 0 ∧ la = ro ∨ t0.toInt = 1 ∧ la ≠ ro) → d_X2_readMoves_65 (d_X2_readMoves_34 n) 23 x1 x2 t0 S2 = some o → MCo S0 g g' ch N st (mach ch N st k p ((ro, la) :: rest) T) o := by
      intro S2 t0 hk1 h2' hs2 ht hf
      obtain ⟨k', rfl⟩ : ∃ k', k = k' + 1 := ⟨k - 1, by omega⟩
      obtain ⟨cg2, -, l2, hp2N, p32, tr2, -, -⟩ := id h2'
      obtain ⟨hT2, ⟨k23, p2, k2⟩, ⟨hc, hN1, -⟩, hcb, h442, hp2⟩ := id l2
      -- the next turn
      have nxt : ∀ (S3 : ZS) (y1 : Int32) (e : Int) (T3 : TRa) (r3 l3 : Nat) (rest3 : List (Nat × Nat)), y1.toInt = (rest3.length : Int) → rest3.length ≤ 6 → CSt S0 S3 g g' ch N e st T3 → SKs S3 st T3 ((r3, l3) :: rest3) → d_X2_readMoves_197 (d_X2_readMoves_34 n) 23 y1 x2 S3 = some o → MCo S0 g g' ch N st (mach ch N st k' e ((r3, l3) :: rest3) T3) o := by
        intro S3 y1 e T3 r3 l3 rest3 hy hr3 h3 hs3 hf
        unfold d_X2_readMoves_197 at hf
        obtain ⟨v1, e1, hf⟩ := m_bndE hf
        have t1 : v1.toInt = x2.toInt + 1 := ti_add e1 rfl (show (1 : Int32).toInt = 1 from rfl) (by omega) (by omega)
        exact ih y1 v1 S3 e T3 r3 l3 rest3 k' hy hr3 (by omega) (by omega) h3 hs3 hf
      have nor : ¬ (rest = [] ∧ rsV ch (blk ch p) ≠ -1) → ¬ (la ≠ ro ∧ ch (blk ch p) = 40) → ¬ (la ≠ ro ∧ rest ≠ [] ∧ ch (blk ch p) = 41) → d_X2_readMoves_187 (d_X2_readMoves_34 n) 23 x1 x2 S2 = some o → MCo S0 g g' ch N st (mach ch N st (k' + 1) p ((ro, la) :: rest) T) o := by
        intro q1 q2 q3 hf
        rw [mc_m q1 q2 q3]
        unfold d_X2_readMoves_187 at hf
        obtain ⟨-, hf⟩ := m_chkE hf
        obtain ⟨⟨r2, S3⟩, h_r2, hf⟩ := m_cal2E hf
        dsimp only at hf
        have g2 := p_readMove h2' hs2 rfl hr6 h1 h_r2
        unfold MVo at g2
        dsimp only at g2
        rcases m_ifE hf with ⟨c1, hf⟩ | ⟨c1, hf⟩
        · skip
          replace c1 := ti_eqP (a := r2) (b := (0 : Int32)) c1 rfl (show (0 : Int32).toInt = 0 from rfl)
          obtain ⟨-, hf⟩ := m_chkE hf
          cases hf
          try dsimp only
          rcases g2 with ⟨e, T', -, a2, -⟩ | ⟨a1, -, a3⟩
          · omega
          · rw [a1]; exact Or.inr ⟨rfl, rfl, a3⟩
        · skip
          replace c1 := ti_eqN (a := r2) (b := (0 : Int32)) c1 rfl (show (0 : Int32).toInt = 0 from rfl)
          rcases g2 with ⟨e, T', a1, -, a3, a4⟩ | ⟨-, a2, -⟩
          · rw [a1]; exact nxt S3 x1 e T' ro (tn T + 1) rest h1 hr6 a3 a4 hf
          · omega
      have clo : ¬ (rest = [] ∧ rsV ch (blk ch p) ≠ -1) → ¬ (la ≠ ro ∧ ch (blk ch p) = 40) → d_X2_readMoves_128 (d_X2_readMoves_34 n) 23 x1 x2 t0 S2 = some o → MCo S0 g g' ch N st (mach ch N st (k' + 1) p ((ro, la) :: rest) T) o := by
        intro q1 q2 hf
        unfold d_X2_readMoves_128 at hf
        rcases m_ifE hf with ⟨c1, hf⟩ | ⟨c1, hf⟩
        · skip
          replace c1 := ti_eqP (a := t0) (b := (0 : Int32)) c1 rfl (show (0 : Int32).toInt = 0 from rfl)
          exact nor q1 q2 (fun e => by omega) hf
        · skip
          replace c1 := ti_eqN (a := t0) (b := (0 : Int32)) c1 rfl (show (0 : Int32).toInt = 0 from rfl)
          rcases m_ifE hf with ⟨c2, hf⟩ | ⟨c2, hf⟩
          · skip
            replace c2 := ti_leP (a := x1) (b := (0 : Int32)) c2 rfl (show (0 : Int32).toInt = 0 from rfl)
            exact nor q1 q2 (fun e => e.2.1 (List.eq_nil_of_length_eq_zero (by omega))) hf
          · skip
            replace c2 := ti_leN (a := x1) (b := (0 : Int32)) c2 rfl (show (0 : Int32).toInt = 0 from rfl)
            obtain ⟨-, hf⟩ := m_chkE hf
            replace hf := m_calY hf p2
            obtain ⟨-, hf⟩ := m_chkE hf
            obtain ⟨-, hf⟩ := m_chkE hf
            obtain ⟨r2, h_r2, hf⟩ := m_calR hf (fun _ h => ro_X6_at h)
            dsimp only at hf
            have p_r2 := pc_X6_at h_r2
            dsimp only at p_r2
            rw [hc, h442] at p_r2
            obtain ⟨-, hf⟩ := m_chkE hf
            rcases m_ifE hf with ⟨c3, hf⟩ | ⟨c3, hf⟩
            · skip
              replace c3 := ti_eqP (a := r2) (b := (41 : Int32)) c3 rfl (show (41 : Int32).toInt = 41 from rfl)
              have ln : la ≠ ro := by omega
              have bN : blk ch p < N := by
                by_cases e : blk ch p < N
                · exact e
                · have := lw_out l2 (show N ≤ blk ch p by omega); omega
              obtain ⟨rl, rest', hrest⟩ : ∃ rl rest', rest = rl :: rest' := by
                cases hq : rest with
                | nil => rw [hq] at h1; have : (([] : List (Nat × Nat)).length : Int) = 0 := rfl; omega
                | cons a b => exact ⟨a, b, rfl⟩
              obtain ⟨ro2, la2⟩ := rl
              subst hrest
              have ll : (((ro2, la2) :: rest').length : Int) = (rest'.length : Int) + 1 := rfl
              have s2' := hs2.2
              obtain ⟨⟨⟨-, z2⟩, ⟨-, z4⟩, -⟩, -⟩ := id s2'
              rw [mc_c q1 ⟨ln, (fun e => by cases e), by omega⟩]
              obtain ⟨v3, e_v3, hf⟩ := m_bndE hf
              have t_v3 : v3.toInt = x1.toInt + (-1) := ti_add e_v3 rfl (show (-1 : Int32).toInt = -1 from rfl) (by omega) (by omega)
              obtain ⟨-, hf⟩ := m_chkE hf
              obtain ⟨v4, e_v4, hf⟩ := m_bndE hf
              have t_v4 : v4.toInt = (zI S2 4 23).toInt + 1 := ti_add e_v4 rfl (show (1 : Int32).toInt = 1 from rfl) (by omega) (by omega)
              obtain ⟨-, hf⟩ := m_chkE hf
              obtain ⟨S5, e_S5, hf⟩ := m_bndE hf
              have L5 : LW S5 ch N (blk ch p + 1) := lw_at l2 e_S5 (by omega) (by omega)
              have C5 := cs_rd h2' L5 (by omega) (fr_I e_S5) (fun a e => by unfold WRd; omega)
              have SK5 := sks_0 cg2 (fr_I e_S5) (fun a ha e => by omega) _ (by show rest'.length + 1 ≤ 7; omega) s2'
              have p35 := C5.2.2.2.2.1
              have p95 : zP S5 9 23 = some 46 := fx_p C5.1.2.2.1 (by decide)
              obtain ⟨-, hf⟩ := m_chkE hf
              replace hf := m_calY hf p35
              obtain ⟨-, hf⟩ := m_chkE hf
              replace hf := m_calY hf p95
              obtain ⟨-, hf⟩ := m_chkE hf
              obtain ⟨-, hf⟩ := m_chkE hf
              obtain ⟨v8, e_v8, hf⟩ := m_bndE hf
              have xn3 : v3.toNatClampNeg = rest'.length := cl_n (by omega)
              have t8 : v8.toInt = (la2 : Int) := by rw [e_v8, xn3]; exact SK5.1.1.2
              obtain ⟨-, hf⟩ := m_chkE hf
              obtain ⟨r9, h_r9, hf⟩ := m_calR hf (fun _ h => ro_X1_at h)
              dsimp only at hf
              have q9 : r9 = nk S5 (g + 3) (g + 5) la2 := by
                have := (p_at C5.1 hgr C5.2.2.2.2.2.1 (by omega) (by omega) h_r9).2
                rw [t8] at this
                exact this
              obtain ⟨-, hf⟩ := m_chkE hf
              obtain ⟨-, hf⟩ := m_chkE hf
              obtain ⟨⟨r11, S12⟩, h_r11, hf⟩ := m_cal2E hf
              dsimp only at hf
              rw [q9] at h_r11
              have g11 := cs_rk C5 z4 h_r11
              dsimp only at g11
              rcases m_ifE hf with ⟨c4, hf⟩ | ⟨c4, hf⟩
              · skip
                replace c4 := ti_eqP (a := r11) (b := (0 : Int32)) c4 rfl (show (0 : Int32).toInt = 0 from rfl)
                obtain ⟨-, hf⟩ := m_chkE hf
                cases hf
                try dsimp only
                rcases g11 with ⟨e, w, -, b2, -⟩ | ⟨b1, -, b3⟩
                · omega
                · show MCo S0 g g' ch N st (match rmkP ch N 2001 (blk ch (blk ch p + 1)) (tR T la2) with | none => none | some (e, w) => _) _
                  rw [b1]; exact Or.inr ⟨rfl, rfl, b3⟩
              · skip
                replace c4 := ti_eqN (a := r11) (b := (0 : Int32)) c4 rfl (show (0 : Int32).toInt = 0 from rfl)
                rcases g11 with ⟨e, w, b1, -, b3, b4⟩ | ⟨-, b2, -⟩
                · show MCo S0 g g' ch N st (match rmkP ch N 2001 (blk ch (blk ch p + 1)) (tR T la2) with | none => none | some (e, w) => mach ch N st k' e ((ro2, la2) :: rest') (rkT T la2 w)) _
                  rw [b1]
                  have nn := fun a h1 h2 h3 h4 => (nk_ne C5.1 hgr la2 (a := a) h1 h2 h3 h4).2
                  have hgb : (g = 35 ∧ g' = 99) ∨ (g = 99 ∧ g' = 35) := hg
                  have SK12 := sks_T (T' := rkT T la2 w) hw (Nat.le_refl _) (fun _ _ => rfl) (fun _ _ => rfl) _ (sks_0 C5.1 b4 (fun a ha e => by
                    rcases e with e | e
                    · omega
                    · exact nn a (by omega) (by omega) (by omega) (by omega) e.symm) _ (by show rest'.length + 1 ≤ 7; omega) SK5)
                  exact nxt S12 v3 e (rkT T la2 w) ro2 la2 rest' (by omega) (by omega) b3 SK12 hf
                · omega
            · skip
              replace c3 := ti_eqN (a := r2) (b := (41 : Int32)) c3 rfl (show (41 : Int32).toInt = 41 from rfl)
              exact nor q1 q2 (fun e => by omega) hf
      have opn : ¬ (rest = [] ∧ rsV ch (blk ch p) ≠ -1) → d_X2_readMoves_80 (d_X2_readMoves_34 n) 23 x1 x2 t0 S2 = some o → MCo S0 g g' ch N st (mach ch N st (k' + 1) p ((ro, la) :: rest) T) o := by
        intro q1 hf
        unfold d_X2_readMoves_80 at hf
        rcases m_ifE hf with ⟨c1, hf⟩ | ⟨c1, hf⟩
        · skip
          replace c1 := ti_eqP (a := t0) (b := (0 : Int32)) c1 rfl (show (0 : Int32).toInt = 0 from rfl)
          exact clo q1 (fun e => by omega) hf
        · skip
          replace c1 := ti_eqN (a := t0) (b := (0 : Int32)) c1 rfl (show (0 : Int32).toInt = 0 from rfl)
          obtain ⟨-, hf⟩ := m_chkE hf
          replace hf := m_calY hf p2
          obtain ⟨-, hf⟩ := m_chkE hf
          obtain ⟨-, hf⟩ := m_chkE hf
          obtain ⟨r2, h_r2, hf⟩ := m_calR hf (fun _ h => ro_X6_at h)
          dsimp only at hf
          have p_r2 := pc_X6_at h_r2
          dsimp only at p_r2
          rw [hc, h442] at p_r2
          obtain ⟨-, hf⟩ := m_chkE hf
          rcases m_ifE hf with ⟨c2, hf⟩ | ⟨c2, hf⟩
          · skip
            replace c2 := ti_eqP (a := r2) (b := (40 : Int32)) c2 rfl (show (40 : Int32).toInt = 40 from rfl)
            have ln : la ≠ ro := by omega
            have bN : blk ch p < N := by
              by_cases e : blk ch p < N
              · exact e
              · have := lw_out l2 (show N ≤ blk ch p by omega); omega
            rw [mc_o q1 ⟨ln, by omega⟩]
            rcases m_ifE hf with ⟨c3, hf⟩ | ⟨c3, hf⟩
            · skip
              replace c3 := ti_ltP (a := x1) (b := (6 : Int32)) c3 rfl (show (6 : Int32).toInt = 6 from rfl)
              obtain ⟨v3, e_v3, hf⟩ := m_bndE hf
              have t_v3 : v3.toInt = x1.toInt + 1 := ti_add e_v3 rfl (show (1 : Int32).toInt = 1 from rfl) (by omega) (by omega)
              obtain ⟨-, hf⟩ := m_chkE hf
              obtain ⟨⟨r4, S4c⟩, h_r4, hf⟩ := m_calE hf
              dsimp only at hf
              obtain ⟨a1, a2⟩ := p_openLine (d := rest.length) h2' hs2 rfl (by omega) (by omega) ln bN h_r4
              dsimp only at a1 a2
              obtain ⟨-, hf⟩ := m_chkE hf
              rw [if_neg (by omega)]
              exact nxt S4c v3 _ T _ _ ((ro, la) :: rest) (by show v3.toInt = ((rest.length + 1 : Nat) : Int); omega) (by show rest.length + 1 ≤ 6; omega) a1 a2 hf
            · skip
              replace c3 := ti_ltN (a := x1) (b := (6 : Int32)) c3 rfl (show (6 : Int32).toInt = 6 from rfl)
              obtain ⟨-, hf⟩ := m_chkE hf
              obtain ⟨-, hf⟩ := m_chkE hf
              obtain ⟨⟨r5, S5c⟩, h_r5, hf⟩ := m_calE hf
              dsimp only at hf
              obtain ⟨b1, b2, b3⟩ := lw_no (x1 := 8) l2 (by decide) (by omega) h_r5
              dsimp only at b1 b2 b3
              obtain ⟨-, hf⟩ := m_chkE hf
              obtain ⟨-, hf⟩ := m_chkE hf
              cases hf
              try dsimp only
              rw [if_pos (by omega)]
              exact Or.inr ⟨rfl, b1, cn_rd (cs_n h2') hg hX b2.1 b3 (fun a e => by unfold WRd; omega)⟩
          · skip
            replace c2 := ti_eqN (a := r2) (b := (40 : Int32)) c2 rfl (show (40 : Int32).toInt = 40 from rfl)
            exact clo q1 (fun e => by omega) hf
      unfold d_X2_readMoves_65 at hf
      rcases m_ifE hf with ⟨c1, hf⟩ | ⟨c1, hf⟩
      · skip
        replace c1 := ti_eqP (a := x1) (b := (0 : Int32)) c1 rfl (show (0 : Int32).toInt = 0 from rfl)
        obtain ⟨-, hf⟩ := m_chkE hf
        obtain ⟨r1, h_r1, hf⟩ := m_calR hf (fun _ h => ro_X2_resultHere h)
        dsimp only at hf
        obtain ⟨-, q1⟩ := p_resultHere l2 h_r1
        dsimp only at q1
        have r0 : rest = [] := List.eq_nil_of_length_eq_zero (by omega)
        obtain ⟨-, hf⟩ := m_chkE hf
        rcases m_ifE hf with ⟨c2, hf⟩ | ⟨c2, hf⟩
        · skip
          replace c2 := ti_eqP (a := r1) (b := (-1 : Int32)) c2 rfl (show (-1 : Int32).toInt = -1 from rfl)
          exact opn (fun e => e.2 (by omega)) hf
        · skip
          replace c2 := ti_eqN (a := r1) (b := (-1 : Int32)) c2 rfl (show (-1 : Int32).toInt = -1 from rfl)
          obtain ⟨-, hf⟩ := m_chkE hf
          cases hf
          try dsimp only
          rw [mc_r r0 (by omega)]
          exact Or.inl ⟨_, _, rfl, rfl, h2', by omega⟩
      · skip
        replace c1 := ti_eqN (a := x1) (b := (0 : Int32)) c1 rfl (show (0 : Int32).toInt = 0 from rfl)
        exact opn (fun e => by rw [e.1] at h1; have : (([] : List (Nat × Nat)).length : Int) = 0 := rfl; omega) hf
    unfold d_X2_readMoves_34s at hf
    rcases m_ifE hf with ⟨c1, hf⟩ | ⟨c1, hf⟩
    · skip
      replace c1 := ti_ltP (a := (2000 : Int32)) (b := x2) c1 (show (2000 : Int32).toInt = 2000 from rfl) rfl
      obtain ⟨-, hf⟩ := m_chkE hf
      obtain ⟨-, hf⟩ := m_chkE hf
      obtain ⟨⟨r1, S1c⟩, h_r1, hf⟩ := m_calE hf
      dsimp only at hf
      obtain ⟨b1, b2, b3⟩ := lw_no (x1 := 1) l (by decide) (by omega) h_r1
      dsimp only at b1 b2 b3
      obtain ⟨-, hf⟩ := m_chkE hf
      obtain ⟨-, hf⟩ := m_chkE hf
      cases hf
      try dsimp only
      have k0 : k = 0 := by omega
      subst k0
      exact Or.inr ⟨rfl, b1, cn_rd (cs_n h) hg hX b2.1 b3 (fun a e => by unfold WRd; omega)⟩
    · skip
      replace c1 := ti_ltN (a := (2000 : Int32)) (b := x2) c1 (show (2000 : Int32).toInt = 2000 from rfl) rfl
      obtain ⟨-, hf⟩ := m_chkE hf
      obtain ⟨⟨r2, S2c⟩, h_r2, hf⟩ := m_calE hf
      dsimp only at hf
      obtain ⟨d1, d2, d3, d4⟩ := lw_bl l h_r2
      dsimp only at d2 d3
      have C2 := cs_rd h d2 (by omega) d3 (fun a e => by unfold WRd; omega)
      have SK2 := sks_0 c d3 (fun a ha e => by omega) _ l7 hs
      have p92 : zP S2c 9 23 = some 46 := fx_p C2.1.2.2.1 (by decide)
      have p82 : zP S2c 8 23 = some 45 := fx_p C2.1.2.2.1 (by decide)
      obtain ⟨⟨⟨z1, z2⟩, -⟩, -⟩ := id SK2
      obtain ⟨-, hf⟩ := m_chkE hf
      obtain ⟨-, hf⟩ := m_chkE hf
      replace hf := m_calY hf p92
      obtain ⟨-, hf⟩ := m_chkE hf
      obtain ⟨-, hf⟩ := m_chkE hf
      obtain ⟨v4, e_v4, hf⟩ := m_bndE hf
      have t4 : v4.toInt = (la : Int) := by rw [e_v4, xn]; exact z2
      obtain ⟨-, hf⟩ := m_chkE hf
      replace hf := m_calY hf p82
      obtain ⟨-, hf⟩ := m_chkE hf
      obtain ⟨-, hf⟩ := m_chkE hf
      obtain ⟨v6, e_v6, hf⟩ := m_bndE hf
      have t6 : v6.toInt = (ro : Int) := by rw [e_v6, xn]; exact z1
      rcases m_ifE hf with ⟨c2, hf⟩ | ⟨c2, hf⟩
      · skip
        replace c2 := ti_eqP (a := v4) (b := v6) c2 rfl rfl
        exact go S2c 0 (by omega) C2 SK2 (Or.inl ⟨rfl, by omega⟩) hf
      · skip
        replace c2 := ti_eqN (a := v4) (b := v6) c2 rfl rfl
        exact go S2c 1 (by omega) C2 SK2 (Or.inr ⟨rfl, by omega⟩) hf
/-- the class reads all moves -/
theorem p_readMoves (h : CSt S0 S g g' ch N p st T) (hst : BO S (g + 1) st) (hf : d_X2_readMoves 23 S = some o) : MCo S0 g g' ch N st (mach ch N st 2001 p [(0, 0)] T) o := by
  have hf : d_X2_readMoves_0 23 S = some o := hf
  obtain ⟨c, ⟨hg, hX, hF0⟩, l, hpN, p3, tr, ⟨hw, hl⟩, i5⟩ := id h
  have hgr := gg_g hg
  have hgb : (g = 35 ∧ g' = 99) ∨ (g = 99 ∧ g' = 35) := hg
  have hx' := c.2.2.1
  have k45 : zK S 45 = 14 := fx_k hx' (by decide) (by decide)
  have P8 : zP S 8 23 = some 45 := fx_p hx' (by decide)
  have xn : (0 : Int32).toNatClampNeg = 0 := rfl
  have h44 := l.2.2.2.2
  unfold d_X2_readMoves_0 at hf
  obtain ⟨-, hf⟩ := m_chkE hf
  replace hf := m_calY hf P8
  obtain ⟨-, hf⟩ := m_chkE hf
  obtain ⟨-, hf⟩ := m_chkE hf
  obtain ⟨S2, e_S2, hf⟩ := m_bndE hf
  rw [xn] at e_S2
  have T2 : ZT S2 := e_S2.symm ▸ zt_A (a := 45) l.1 k45
  have F2 : FR (fun a => a = 45) S S2 := fr_A l.1 k45 e_S2
  have X2 := fix_fr hx' F2
  have P92 : zP S2 9 23 = some 46 := fx_p X2 (by decide)
  have k462 : zK S2 46 = 14 := fx_k X2 (by decide) (by decide)
  have a45 : zA S2 45 0 = 0 := by
    rw [e_S2]
    show va_up (zA S) 45 (upd (zA S 45) 0 0) 45 0 = _
    rw [va_up_self, upd_self]
  obtain ⟨-, hf⟩ := m_chkE hf
  replace hf := m_calY hf P92
  obtain ⟨-, hf⟩ := m_chkE hf
  obtain ⟨-, hf⟩ := m_chkE hf
  obtain ⟨S4, e_S4, hf⟩ := m_bndE hf
  rw [xn] at e_S4
  have T4 : ZT S4 := e_S4.symm ▸ zt_A (a := 46) T2 k462
  have F4 : FR (fun a => a = 46) S2 S4 := fr_A T2 k462 e_S4
  have X4 := fix_fr X2 F4
  have FW : FR (fun a => a = 45 ∨ a = 46) S S4 := fr_t (fr_m F2 (fun a _ e => Or.inl e)) (fr_m F4 (fun a _ e => Or.inr e))
  have L4 : LW S4 ch N p := lw_nd l T4 FW (by omega) (by omega)
  have C4 := cs_rd h L4 hpN FW (fun a e => by unfold WRd; omega)
  have a464 : zA S4 46 0 = 0 := by
    rw [e_S4]
    show va_up (zA S2) 46 (upd (zA S2 46) 0 0) 46 0 = _
    rw [va_up_self, upd_self]
  have a454 : zA S4 45 0 = 0 := by
    rw [e_S4]
    show va_up (zA S2) 46 (upd (zA S2 46) 0 0) 45 0 = _
    rw [va_up_ne _ _ (by decide)]; exact a45
  have P114 : zP S4 11 23 = some 48 := fx_p X4 (by decide)
  have z48 : zB S4 48 (0 : Int32).toNatClampNeg = some 51 := (X4.2.2.2.2.1 0 (by decide)).2.1
  have p34 := C4.2.2.2.2.1
  have p04 : zP S4 0 g = some (g+1) := (fx_g X4 hgr).1.2.1
  have b4 := bo_fr hst FW (by omega) (by omega)
  obtain ⟨-, hf⟩ := m_chkE hf
  replace hf := m_calY hf P114
  obtain ⟨-, hf⟩ := m_chkE hf
  obtain ⟨-, hf⟩ := m_chkE hf
  replace hf := m_calY hf z48
  obtain ⟨-, hf⟩ := m_chkE hf
  replace hf := m_calY hf p34
  obtain ⟨-, hf⟩ := m_chkE hf
  replace hf := m_calY hf p04
  obtain ⟨-, hf⟩ := m_chkE hf
  obtain ⟨⟨r9, S9c⟩, h_r9, hf⟩ := m_calE hf
  dsimp only at hf
  obtain ⟨T9, F9, B9⟩ := bo_copy T4 (fx_k X4 (by decide) (by decide)) (X4.2.2.1 1 (by decide)) (fx_k X4 (by decide) (by decide)) b4 h_r9
  dsimp only at T9 F9 B9
  have L9 : LW S9c ch N p := lw_nd L4 T9 F9 (by omega) (by omega)
  have C9 := cs_rd C4 L9 hpN F9 (fun a e => by unfold WRd; omega)
  have e45 : zA S9c 45 = zA S4 45 := (fr_e F9 (fx_l X4 (by decide) (by decide)) (by omega)).2.2.2.2.2.1 (by rw [show zK S4 45 = 14 from fx_k X4 (by decide) (by decide)]; decide)
  have e46 : zA S9c 46 = zA S4 46 := (fr_e F9 (fx_l X4 (by decide) (by decide)) (by omega)).2.2.2.2.2.1 (by rw [show zK S4 46 = 14 from fx_k X4 (by decide) (by decide)]; decide)
  have SK9 : SKs S9c st T [(0, 0)] := ⟨⟨⟨by show (zA S9c 45 0).toInt = _; rw [e45, a454]; rfl, by show (zA S9c 46 0).toInt = _; rw [e46, a464]; rfl⟩, ⟨Nat.le_refl _, Nat.zero_le _⟩, B9, fun e => absurd rfl e⟩, trivial⟩
  obtain ⟨-, hf⟩ := m_chkE hf
  exact rmv_34 mFuel 0 0 S9c p T 0 0 [] 2001 rfl (Nat.zero_le _) rfl (Nat.le_refl _) C9 SK9 hf
end RMV
