theorem rsV_b {ch : Int → Int} {p : Int} : -1 ≤ rsV ch p ∧ rsV ch p ≤ 3 := by
  unfold rsV
  split
  · decide
  · split
    · decide
    · split
      · decide
      · split <;> decide
section RL3
variable {I0 : Nat → Int32} {A0 : Nat → Nat → Int32} {g : Nat} {ch : Int → Int} {N : Int} {st : PO} {x1 : Int32}
/-- a line of the reference from its loop's head on -/
theorem rl_3 {x2 x3 : Int32} {nd : Nat} {rest : List (Nat × Nat)} {o : Int32 × MS} {rec : Int32 → Int32 → Int32 → (Nat → Int32) → (Nat → Nat → Int32) → Option (Int32 × MS)} (h1 : x1.toInt = (g : Int)) (h2 : x2.toInt = (nd : Int)) (h3 : x3.toInt = (rest.length : Int)) (hr6 : rest.length ≤ 6)
    (hrec : ∀ (y2 y3 : Int32) (I : Nat → Int32) (A : Nat → Nat → Int32) (n2 : Nat) (rest2 : List (Nat × Nat)) (p : Int) (T : TRa) (o : Int32 × MS), y2.toInt = (n2 : Int) → n2 ≤ tn T → y3.toInt = (rest2.length : Int) → rest2.length ≤ 6 → RSt I0 I A0 A g ch N p st T → rec x1 y2 y3 I A = some o → RLo I0 A0 g ch N st n2 rest2 p n2 T o) : ∀ (n : Nat) (x4 : Int32) (I : Nat → Int32) (A : Nat → Nat → Int32) (p : Int) (tip : Nat) (T : TRa), x4.toInt = (tip : Int) → tip ≤ tn T → nd ≤ tip → (tip = nd ∨ (blk ch p = p ∧ ch p ≠ 40)) → RSt I0 I A0 A g ch N p st T → f_readLine_3 rec n x1 x2 x3 x4 I A = some o → RLo I0 A0 g ch N st nd rest p tip T o := by
  intro n
  induction n with
  | zero => intro x4 I A p tip T _ _ _ _ _ hf; cases hf
  | succ n ih =>
    intro x4 I A p tip T h4 htt hnt hb h hf
    have hf : f_readLine_3s rec (f_readLine_3 rec n) x1 x2 x3 x4 I A = some o := hf
    obtain ⟨rv, hpN, hg, tr, sp, ⟨hw, hl⟩, -⟩ := id h
    obtain ⟨⟨hI, hA⟩, ⟨hc, hN, hn⟩, hcb, h37, hp0⟩ := id rv
    have hz : ∀ i, N ≤ i → ch i = 0 := fun i hi => rv_out rv hi
    have h300 := hw.1
    obtain ⟨bb1, bb2⟩ := blk_b (p := p) hz
    -- a move
    have mv : ∀ (I1 : Nat → Int32) (A1 : Nat → Nat → Int32), RSt I0 I1 A0 A1 g ch N (blk ch p) st T → ¬ (rest = [] ∧ rsV ch (blk ch p) ≠ -1) → ¬ (tip ≠ nd ∧ rest ≠ [] ∧ ch (blk ch p) = 41) → f_readLine_38 rec (f_readLine_3 rec n) x1 x2 x3 x4 I1 A1 = some o → RLo I0 A0 g ch N st nd rest p tip T o := by
      intro I1 A1 hs1 q1 q3 hf
      have q2 : ¬ (tip ≠ nd ∧ ch (blk ch p) = 40) := fun e => by
        rcases hb with hb | ⟨hb1, hb2⟩
        · exact e.1 hb
        · rw [hb1] at e; exact hb2 e.2
      have step : ∀ k : Nat, mach ch N st (k + 1) p ((nd, tip) :: rest) T = match mvP ch N st T tip (blk ch p) with
          | none => none
          | some (e, T') => mach ch N st k e ((nd, tn T + 1) :: rest) T' := fun k => mc_m q1 q2 q3
      have no : ∀ {r : Int32} {I9 : Nat → Int32} {A9 : Nat → Nat → Int32}, o = (r, (I9, A9)) → 0 < r.toInt → RSn I0 I9 A0 A9 g → mvP ch N st T tip (blk ch p) = none → RLo I0 A0 g ch N st nd rest p tip T o := by
        intro r I9 A9 e hr hn9 hm
        rw [e]
        exact rlo_no hpN hr hn9 (fun k _ => by rw [step k, hm])
      unfold f_readLine_38 at hf
      obtain ⟨⟨r1, I2, A2⟩, h_r1, hf⟩ := m_clE hf
      dsimp only at hf
      obtain ⟨s2, rp2, mv2⟩ := rs_pl hs1 h1 h4 htt h_r1
      dsimp only at s2 rp2 mv2
      obtain ⟨⟨r2, I3, A3⟩, h_r2, hf⟩ := m_clE hf
      dsimp only at hf
      have g2 := v_readMoveNumber s2.1 s2.2.1 h_r2
      dsimp only at g2
      rw [rp2.2.2.2.2.2] at g2
      rcases m_ifE hf with ⟨c2, hf⟩ | ⟨c2, hf⟩
      · replace c2 := ti_leP (a := r2) (b := (0 : Int32)) c2 rfl rfl
        obtain ⟨q, a1, a2, a3, a4, a5⟩ : ∃ e, nuP ch (onb (posT st T tip)) (blk ch p) = some e ∧ RV I3 A3 ch N e ∧ A3 = A2 ∧ (∀ j, j ≠ 37 → I3 j = I2 j) ∧ e ≤ N := by
          rcases g2 with ⟨-, e, a1, a2, a3, a4, a5⟩ | ⟨a1, -⟩
          · exact ⟨e, a1, a2, a3, a4, a5⟩
          · have z0 : (0 : Int32).toInt = 0 := rfl
            omega
        rw [a3] at hf a2
        have s3 := rs_hi s2 a2 a5 (fun _ _ => rfl) (fun j hj => a4 j (n37 hj))
        have rp3 : RPp I3 A2 (posT st T tip) := ⟨a2.1, rp2.2.1, by rw [a4 25 (by decide)]; exact rp2.2.2.1, by rw [a4 26 (by decide)]; exact rp2.2.2.2.1, by rw [a4 27 (by decide)]; exact rp2.2.2.2.2.1, by rw [a4 29 (by decide)]; exact rp2.2.2.2.2.2⟩
        have mv3 : MVs I3 A2 (posT st T tip) := ⟨by rw [a4 33 (by decide)]; exact mv2.1, mv2.2⟩
        obtain ⟨⟨r3, I4, A4⟩, h_r3, hf⟩ := m_clE hf
        dsimp only at hf
        have g3 := v_readMove s3 h1 h4 htt rp3 mv3 h_r3
        unfold MRo at g3
        dsimp only at g3
        rcases m_ifE hf with ⟨c3, hf⟩ | ⟨c3, hf⟩
        · replace c3 := ti_leP (a := (0 : Int32)) (b := r3) c3 rfl rfl
          have z0 : (0 : Int32).toInt = 0 := rfl
          obtain ⟨b1, b2, b3, b4, b5, s4⟩ : isL (ch q) ∧ 0 ≤ sgV (posT st T tip) ch q (sgk ch q) ∧ chL (tM T) (sgV (posT st T tip) ch q (sgk ch q)) (tL T tip) = -1 ∧ tn T < 300 ∧ r3.toInt = ((tn T + 1 : Nat) : Int) ∧ RSt I0 I4 A0 A4 g ch N (sgk ch q) st (grT T tip (sgV (posT st T tip) ch q (sgk ch q))) := by
            rcases g3 with b | ⟨b, -⟩
            · exact b
            · omega
          have md := mv_6 (N := N) a1 b1 (by omega) b3 (by omega)
          have gq := nuP_b hz a1
          have gs := sgk_g hz b1
          obtain ⟨⟨r4, I5, A5⟩, h_r4, hf⟩ := m_clE hf
          dsimp only at hf
          have g4 := rs_mm s4 h1 b5 (Nat.le_refl _) (show (if tn T + 1 = tn T + 1 then [] else tK T (tn T + 1)) = [] from if_pos rfl) h_r4
          dsimp only at g4
          rcases m_ifE hf with ⟨c4, hf⟩ | ⟨c4, hf⟩
          · replace c4 := ti_leP (a := r4) (b := (0 : Int32)) c4 rfl rfl
            obtain ⟨e2, K, d1, s5⟩ : ∃ e K, mkP ch (sgk ch q) = some (e, K) ∧ RSt I0 I5 A0 A5 g ch N e st (mkT (grT T tip (sgV (posT st T tip) ch q (sgk ch q))) (tn T + 1) K) := by
              rcases g4 with ⟨e, K, d1, -, d3⟩ | ⟨-, d2, -⟩
              · exact ⟨e, K, d1, d3⟩
              · omega
            have ge := mkP_b hz d1
            obtain ⟨⟨r5, I6, A6⟩, h_r5, hf⟩ := m_clE hf
            dsimp only at hf
            have g5 := rs_rk s5 h1 b5 (Nat.le_refl _) h_r5
            dsimp only at g5
            have eR : tR (mkT (grT T tip (sgV (posT st T tip) ch q (sgk ch q))) (tn T + 1) K) (tn T + 1) = [] := if_pos rfl
            rw [eR] at g5
            unfold f_readLine_111 at hf
            rcases g5 with ⟨e3, w, f1, f2, s6⟩ | ⟨f1, f2, f3⟩
            · have ge3 := rmkP_b hz _ _ _ _ _ f1
              have ge4 := (blk_b (p := e2) hz).2
              have fe3 := rmkP_f hz _ _ _ _ _ (blk_i hz) f1
              have mvv : mvP ch N st T tip (blk ch p) = some (e3, rkT (mkT (grT T tip (sgV (posT st T tip) ch q (sgk ch q))) (tn T + 1) K) (tn T + 1) w) := by
                rw [md, d1]
                show (match rmkP ch N 2001 (blk ch e2) [] with | none => none | some (e3, w) => some (e3, rkT (mkT (grT T tip (sgV (posT st T tip) ch q (sgk ch q))) (tn T + 1) K) (tn T + 1) w)) = _
                rw [f1]
              have key := rl_113 (g := g) (nd := nd) (tip := tn T + 1) (bf := tip) (n3 := n) (x2 := x2) (x7 := x4) (st := st) (N := N) (ch := ch) (I0 := I0) (A0 := A0) h1 h3 hr6 b5 h4 (show tn T + 1 ≠ nd by omega) hrec (fun I' A' p' T' t1 t2 t3 t4 hf' => ih r3 I' A' p' (tn T + 1) T' b5 t1 (by omega) (Or.inr ⟨t2, t3⟩) t4 hf') mFuel r5 I6 A6 e3 (rkT (mkT (grT T tip (sgV (posT st T tip) ch q (sgk ch q))) (tn T + 1) K) (tn T + 1) w) f2 (Nat.le_refl _) (by show ((if tn T + 1 = tn T + 1 then (tip : Int) else tP T (tn T + 1))).toNat = tip; rw [if_pos rfl]; rfl) (by show tip ≤ tn T + 1; omega) fe3 s6 hf
              refine rlo_up key (ext_t (T1 := grT T tip (sgV (posT st T tip) ch q (sgk ch q))) ext_gr ⟨Nat.le_refl _, fun _ _ => rfl⟩) (by omega) hpN (fun k hk => ⟨k, by omega, ?_⟩)
              rw [step k, mvv]
            · have e9 := rl_113f f2 mFuel hf
              refine no e9 f2 f3 ?_
              rw [md, d1]
              show (match rmkP ch N 2001 (blk ch e2) [] with | none => none | some (e3, w) => some (e3, rkT (mkT (grT T tip (sgV (posT st T tip) ch q (sgk ch q))) (tn T + 1) K) (tn T + 1) w)) = none
              rw [f1]
          · replace c4 := ti_leN (a := r4) (b := (0 : Int32)) c4 rfl rfl
            unfold f_readLine_111 at hf
            have e9 := rl_113f (by omega) mFuel hf
            rcases g4 with ⟨e, K, -, d2, -⟩ | ⟨d1, d2, d3⟩
            · omega
            · refine no e9 d2 d3 ?_
              rw [md, d1]
        · replace c3 := ti_leN (a := (0 : Int32)) (b := r3) c3 rfl rfl
          have z0 : (0 : Int32).toInt = 0 := rfl
          rcases g3 with ⟨-, -, -, -, b5, -⟩ | ⟨b1, b2, b3, b4⟩
          · omega
          · obtain ⟨v6, e6, hf⟩ := m_bndE hf
            have t6 : v6.toInt = -r3.toInt := ti_neg e6 rfl (by omega)
            cases hf
            refine no rfl (by omega) b3 ?_
            rcases b4 with b4 | b4 | b4 | b4
            · exact mv_2 a1 b4
            · exact mv_3 a1 b4
            · exact mv_4 a1 b4
            · exact mv_5 a1 b4
      · replace c2 := ti_leN (a := r2) (b := (0 : Int32)) c2 rfl rfl
        have z0 : (0 : Int32).toInt = 0 := rfl
        cases hf
        rcases g2 with ⟨a1, -⟩ | ⟨a1, a2, a3, a4⟩
        · omega
        · refine no rfl (by omega) ?_ (mv_1 a2)
          rw [a3]
          exact rn_hi (rs_n s2) (fun _ _ => rfl) (fun j hj => a4 j (n37 hj))
    unfold f_readLine_3s at hf
    obtain ⟨⟨r1, Ic1, Ac1⟩, h_r1, hf⟩ := m_clE hf
    dsimp only at hf
    obtain ⟨b1, b2, b3, b4, b5⟩ := rv_bl rv h_r1
    dsimp only at b2 b3 b4
    rw [b3] at b2 hf
    have s1 := rs_hi h b2 (by omega) (fun _ _ => rfl) (fun j hj => b4 j (n37 hj))
    rcases m_ifE hf with ⟨c1, hf⟩ | ⟨c1, hf⟩
    · skip
      replace c1 := ti_eqP (a := x3) (b := (0 : Int32)) c1 rfl (show (0 : Int32).toInt = 0 from rfl)
      obtain ⟨r3, h_r3, hf⟩ := m_clR hf (fun _ h => rro_resultHere h)
      obtain ⟨-, q3⟩ := v_resultHere b2.2.1.1 b2.2.1.2.1 (by omega) b2.2.2.2.1 b2.2.2.2.2 h_r3
      dsimp only at q3
      have r0 : rest = [] := List.eq_nil_of_length_eq_zero (by omega)
      rcases m_ifE hf with ⟨c2, hf⟩ | ⟨c2, hf⟩
      · skip
        replace c2 := ti_ltP (a := r3) (b := (0 : Int32)) c2 rfl (show (0 : Int32).toInt = 0 from rfl)
        have rb := rsV_b (ch := ch) (p := blk ch p)
        exact mv Ic1 A s1 (fun e => e.2 (by omega)) (fun e => e.2.1 r0) hf
      · skip
        replace c2 := ti_ltN (a := r3) (b := (0 : Int32)) c2 rfl (show (0 : Int32).toInt = 0 from rfl)
        unfold f_readLine_36 at hf
        cases hf
        refine Or.inr ⟨rfl, blk ch p, T, s1, ext_0, Or.inl ⟨r0, by omega, fun k hk => ?_⟩⟩
        obtain ⟨k', rfl⟩ : ∃ k', k = k' + 1 := ⟨k - 1, by omega⟩
        exact mc_r r0 (by omega)
    · skip
      replace c1 := ti_eqN (a := x3) (b := (0 : Int32)) c1 rfl (show (0 : Int32).toInt = 0 from rfl)
      obtain ⟨r2, h_r2, hf⟩ := m_clR hf (fun _ h => rro_look h)
      have p_r2 := pc_look h_r2
      dsimp only at p_r2
      have q2 := rv_lk b2 h_r2
      dsimp only at q2
      clear p_r2
      have rn : rest ≠ [] := fun e => by
        rw [e] at h3
        have : (([] : List (Nat × Nat)).length : Int) = 0 := rfl
        omega
      rcases m_ifE hf with ⟨c3, hf⟩ | ⟨c3, hf⟩
      · skip
        replace c3 := ti_eqP (a := r2) (b := (41 : Int32)) c3 rfl (show (41 : Int32).toInt = 41 from rfl)
        rcases m_ifE hf with ⟨c4, hf⟩ | ⟨c4, hf⟩
        · skip
          replace c4 := ti_eqP (a := x4) (b := x2) c4 rfl rfl
          exact mv Ic1 A s1 (fun e => rn e.1) (fun e => e.1 (by omega)) hf
        · skip
          replace c4 := ti_eqN (a := x4) (b := x2) c4 rfl rfl
          unfold f_readLine_36 at hf
          cases hf
          have tne : tip ≠ nd := by omega
          have bi : blk ch (blk ch p) = blk ch p := blk_i hz
          refine Or.inr ⟨rfl, blk ch p, T, s1, ext_0, Or.inr ⟨rn, tip, tne, htt, by omega, bb2, bi, fun k hk => ?_⟩⟩
          obtain ⟨k', rfl⟩ : ∃ k', k = k' + 1 := ⟨k - 1, by omega⟩
          by_cases e : blk ch p = p
          · exact ⟨k' + 1, by rw [e]; omega, by rw [e]⟩
          · refine ⟨k' + 1, by omega, ?_⟩
            have e41 : ch (blk ch p) = 41 := by omega
            rw [mc_c (fun q => rn q.1) ⟨tne, rn, e41⟩, mc_c (p := blk ch p) (fun q => rn q.1) ⟨tne, rn, by rw [bi]; exact e41⟩, bi]
      · skip
        replace c3 := ti_eqN (a := r2) (b := (41 : Int32)) c3 rfl (show (41 : Int32).toInt = 41 from rfl)
        exact mv Ic1 A s1 (fun e => rn e.1) (fun e => by omega) hf
/-- a line of the reference -/
theorem rl_all (h1 : x1.toInt = (g : Int)) : ∀ (m : Nat) (y2 y3 : Int32) (I : Nat → Int32) (A : Nat → Nat → Int32) (n2 : Nat) (rest2 : List (Nat × Nat)) (p : Int) (T : TRa) (o : Int32 × MS), y2.toInt = (n2 : Int) → n2 ≤ tn T → y3.toInt = (rest2.length : Int) → rest2.length ≤ 6 → RSt I0 I A0 A g ch N p st T → fr_readLine m x1 y2 y3 I A = some o → RLo I0 A0 g ch N st n2 rest2 p n2 T o := by
  intro m
  induction m with
  | zero => intro y2 y3 I A n2 rest2 p T o _ _ _ _ _ hf; cases hf
  | succ m ih =>
    intro y2 y3 I A n2 rest2 p T o e2 e3 e4 e5 h hf
    have hf : f_readLine_3 (fr_readLine m) mFuel x1 y2 y3 y2 I A = some o := hf
    exact rl_3 h1 e2 e4 e5 ih mFuel y2 I A p n2 T e2 e3 (Nat.le_refl _) (Or.inl rfl) h hf
end RL3
