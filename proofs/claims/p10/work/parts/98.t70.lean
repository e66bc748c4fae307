theorem rmkP_f {ch : Int → Int} {N : Int} (hz : ∀ i, N ≤ i → ch i = 0) : ∀ (k : Nat) (p : Int) (r : List Int) (e : Int) (w : List Int), blk ch p = p → rmkP ch N k p r = some (e, w) → blk ch e = e
  | 0, _, _, _, _, _, h => by cases h
  | k + 1, p, r, e, w, hp, h => by
    by_cases c : ch p = 123 ∨ ch p = 59
    · by_cases g : ∃ q, RM1 ch N p q
      · obtain ⟨q, g⟩ := g
        by_cases l : ((jnR r ch (p + 1) (q - (p + 1)).toNat).length : Int) ≤ 200
        · rw [rkP_s g l] at h
          exact rmkP_f hz k _ _ e w (blk_i hz) h
        · rw [rkP_l g (by omega)] at h; cases h
      · rw [rkP_n c (fun q hq => g ⟨q, hq⟩)] at h; cases h
    · rw [rkP_0 c] at h
      cases h
      exact hp
/-- a tree that has grown -/
noncomputable def EXt (T T' : TRa) : Prop := tn T ≤ tn T' ∧ ∀ k, k ≤ tn T → tP T' k = tP T k
theorem ext_0 {T : TRa} : EXt T T := ⟨Nat.le_refl _, fun _ _ => rfl⟩
theorem ext_t {T T1 T2 : TRa} (h : EXt T T1) (g : EXt T1 T2) : EXt T T2 := ⟨Nat.le_trans h.1 g.1, fun k hk => (g.2 k (Nat.le_trans hk h.1)).trans (h.2 k hk)⟩
theorem ext_gr {T : TRa} {p : Nat} {m : Int} : EXt T (grT T p m) := ⟨Nat.le_succ _, fun k hk => if_neg (show ¬ k = tn T + 1 by omega)⟩
/-- how a line of the reference ends -/
noncomputable def RLo (I0 : Nat → Int32) (A0 : Nat → Nat → Int32) (g : Nat) (ch : Int → Int) (N : Int) (st : PO) (nd : Nat) (rest : List (Nat × Nat)) (p : Int) (tip : Nat) (T : TRa) (o : Int32 × MS) : Prop := (0 < o.1.toInt ∧ RSn I0 o.2.1 A0 o.2.2 g ∧ ∀ k : Nat, N < p + (k : Int) → mach ch N st k p ((nd, tip) :: rest) T = none) ∨ (o.1.toInt = 0 ∧ ∃ e T', RSt I0 o.2.1 A0 o.2.2 g ch N e st T' ∧ EXt T T' ∧ ((rest = [] ∧ rsV ch e ≠ -1 ∧ ∀ k : Nat, N < p + (k : Int) → mach ch N st k p ((nd, tip) :: rest) T = some (e, T')) ∨ (rest ≠ [] ∧ ∃ tip', tip' ≠ nd ∧ tip' ≤ tn T' ∧ ch e = 41 ∧ p ≤ e ∧ blk ch e = e ∧ ∀ k : Nat, N < p + (k : Int) → ∃ k' : Nat, N < e + (k' : Int) ∧ mach ch N st k p ((nd, tip) :: rest) T = mach ch N st k' e ((nd, tip') :: rest) T')))
section RLS
variable {I I0 : Nat → Int32} {A A0 : Nat → Nat → Int32} {g nd tip : Nat} {rest : List (Nat × Nat)} {ch : Int → Int} {N p : Int} {st : PO} {T : TRa} {o : Int32 × MS} {x1 x2 x3 : Int32}
/-- a step of the machine before -/
theorem rlo_up {e : Int} {tip1 : Nat} {T1 : TRa} (h : RLo I0 A0 g ch N st nd rest e tip1 T1 o) (hx : EXt T T1) (hpe : p ≤ e) (hpN : p ≤ N) (hm : ∀ k : Nat, N < p + ((k + 1 : Nat) : Int) → ∃ k1 : Nat, N < e + (k1 : Int) ∧ mach ch N st (k + 1) p ((nd, tip) :: rest) T = mach ch N st k1 e ((nd, tip1) :: rest) T1) : RLo I0 A0 g ch N st nd rest p tip T o := by
  have sp : ∀ k : Nat, N < p + (k : Int) → ∃ k', k = k' + 1 := fun k hk => ⟨k - 1, by omega⟩
  rcases h with ⟨a1, a2, a3⟩ | ⟨a1, e', T', a2, a3, a4⟩
  · refine Or.inl ⟨a1, a2, fun k hk => ?_⟩
    obtain ⟨k', rfl⟩ := sp k hk
    obtain ⟨k1, b1, b2⟩ := hm k' hk
    rw [b2]; exact a3 k1 b1
  · refine Or.inr ⟨a1, e', T', a2, ext_t hx a3, ?_⟩
    rcases a4 with ⟨c1, c2, c3⟩ | ⟨c1, tip', c2, c3, c4, c5, c6, c7⟩
    · refine Or.inl ⟨c1, c2, fun k hk => ?_⟩
      obtain ⟨k', rfl⟩ := sp k hk
      obtain ⟨k1, b1, b2⟩ := hm k' hk
      rw [b2]; exact c3 k1 b1
    · refine Or.inr ⟨c1, tip', c2, c3, c4, by omega, c6, fun k hk => ?_⟩
      obtain ⟨k', rfl⟩ := sp k hk
      obtain ⟨k1, b1, b2⟩ := hm k' hk
      obtain ⟨k2, b3, b4⟩ := c7 k1 b1
      exact ⟨k2, b3, b2.trans b4⟩
/-- a fault -/
theorem rlo_no (hpN : p ≤ N) (h1 : 0 < o.1.toInt) (h2 : RSn I0 o.2.1 A0 o.2.2 g) (hm : ∀ k : Nat, N < p + ((k + 1 : Nat) : Int) → mach ch N st (k + 1) p ((nd, tip) :: rest) T = none) : RLo I0 A0 g ch N st nd rest p tip T o := by
  refine Or.inl ⟨h1, h2, fun k hk => ?_⟩
  obtain ⟨k', rfl⟩ : ∃ k', k = k' + 1 := ⟨k - 1, by omega⟩
  exact hm k' hk
theorem rl_113f {x4 x5 x7 : Int32} {rec : Int32 → Int32 → Int32 → (Nat → Int32) → (Nat → Nat → Int32) → Option (Int32 × MS)} {self3 : Int32 → Int32 → Int32 → Int32 → (Nat → Int32) → (Nat → Nat → Int32) → Option (Int32 × MS)} (h5 : 0 < x5.toInt) : ∀ (n : Nat), f_readLine_113 rec self3 n x1 x2 x3 x4 x5 x7 I A = some o → o = (x5, (I, A)) := by
  intro n hf
  cases n with
  | zero => cases hf
  | succ n =>
    have hf : f_readLine_113s rec self3 (f_readLine_113 rec self3 n) x1 x2 x3 x4 x5 x7 I A = some o := hf
    have z0 : (0 : Int32).toInt = 0 := rfl
    unfold f_readLine_113s f_readLine_224 at hf
    rcases m_ifE hf with ⟨c, hf⟩ | ⟨-, hf⟩
    · rw [c] at h5; omega
    · rcases m_ifE hf with ⟨c, hf⟩ | ⟨-, hf⟩
      · have := Int32.le_iff_toInt_le.1 c; omega
      · cases hf; rfl
/-- other lines instead of the node tip -/
theorem rl_113 {bf n3 : Nat} {x4 x7 : Int32} {rec : Int32 → Int32 → Int32 → (Nat → Int32) → (Nat → Nat → Int32) → Option (Int32 × MS)} (h1 : x1.toInt = (g : Int)) (h3 : x3.toInt = (rest.length : Int)) (hr6 : rest.length ≤ 6) (h4 : x4.toInt = (tip : Int)) (h7 : x7.toInt = (bf : Int)) (htn : tip ≠ nd)
    (hrec : ∀ (y2 y3 : Int32) (I : Nat → Int32) (A : Nat → Nat → Int32) (n2 : Nat) (rest2 : List (Nat × Nat)) (p : Int) (T : TRa) (o : Int32 × MS), y2.toInt = (n2 : Int) → n2 ≤ tn T → y3.toInt = (rest2.length : Int) → rest2.length ≤ 6 → RSt I0 I A0 A g ch N p st T → rec x1 y2 y3 I A = some o → RLo I0 A0 g ch N st n2 rest2 p n2 T o)
    (h3c : ∀ (I : Nat → Int32) (A : Nat → Nat → Int32) (p : Int) (T : TRa), tip ≤ tn T → blk ch p = p → ch p ≠ 40 → RSt I0 I A0 A g ch N p st T → f_readLine_3 rec n3 x1 x2 x3 x4 I A = some o → RLo I0 A0 g ch N st nd rest p tip T o) : ∀ (n : Nat) (x5 : Int32) (I : Nat → Int32) (A : Nat → Nat → Int32) (p : Int) (T : TRa), x5.toInt = 0 → tip ≤ tn T → (tP T tip).toNat = bf → bf ≤ tn T → blk ch p = p → RSt I0 I A0 A g ch N p st T → f_readLine_113 rec (f_readLine_3 rec n3) n x1 x2 x3 x4 x5 x7 I A = some o → RLo I0 A0 g ch N st nd rest p tip T o := by
  intro n
  induction n with
  | zero => intro x5 I A p T _ _ _ _ _ _ hf; cases hf
  | succ n ih =>
    intro x5 I A p T h5 htt hbf hbn hbp h hf
    have hf : f_readLine_113s rec (f_readLine_3 rec n3) (f_readLine_113 rec (f_readLine_3 rec n3) n) x1 x2 x3 x4 x5 x7 I A = some o := hf
    obtain ⟨rv, hpN, hg, tr, sp, ⟨hw, hl⟩, -⟩ := id h
    obtain ⟨⟨hI, hA⟩, ⟨hc, hN, hn⟩, hcb, h37, hp0⟩ := id rv
    have hz : ∀ i, N ≤ i → ch i = 0 := fun i hi => rv_out rv hi
    have z0 : (0 : Int32).toInt = 0 := rfl
    -- behind the inner line
    have aft : ∀ (r4 : Int32) (I4 : Nat → Int32) (A4 : Nat → Nat → Int32), ch p = 40 → p < N → rest.length < 6 → RLo I0 A0 g ch N st bf ((nd, tip) :: rest) (p + 1) bf T (r4, (I4, A4)) → f_readLine_178 rec (f_readLine_3 rec n3) (f_readLine_113 rec (f_readLine_3 rec n3) n) x1 x2 x3 x4 x7 r4 I4 A4 = some o → RLo I0 A0 g ch N st nd rest p tip T o := by
      intro r4 I4 A4 c40 pN hlt hR hf
      have nr : ¬ (rest = [] ∧ rsV ch (blk ch p) ≠ -1) := fun e => e.2 (by
        rw [hbp]
        unfold rsV
        rw [if_neg (by omega), if_neg (by omega), if_neg (by omega), if_neg (by omega)])
      have step : ∀ k : Nat, mach ch N st (k + 1) p ((nd, tip) :: rest) T = mach ch N st k (p + 1) ((bf, bf) :: (nd, tip) :: rest) T := fun k => by
        rw [mc_o nr ⟨htn, by rw [hbp]; exact c40⟩, if_neg (by omega), hbp, hbf]
      rcases hR with ⟨a1, a2, a3⟩ | ⟨a1, e, T', a2, a3, a4⟩
      · dsimp only at a1 a2
        have e9 : o = (r4, (upd I4 37 (I4 37), A4)) := by
          unfold f_readLine_178 at hf
          rcases m_ifE hf with ⟨c, hf⟩ | ⟨-, hf⟩
          · have := Int32.le_iff_toInt_le.1 c; omega
          · unfold f_readLine_199 at hf
            obtain ⟨I5, e5, hf⟩ := m_bndE hf
            rcases m_ifE hf with ⟨c, hf⟩ | ⟨-, hf⟩
            · have := Int32.le_iff_toInt_le.1 c; omega
            · unfold f_readLine_219 at hf
              rw [e5] at hf
              exact rl_113f a1 n hf
        rw [e9]
        refine rlo_no hpN a1 (rn_hi a2 (fun _ _ => rfl) (fun j hj => upd_ne (n37 hj))) (fun k hk => ?_)
        rw [step k]
        exact a3 k (by omega)
      · dsimp only at a1 a2
        obtain ⟨-, tip', c2, c3, c4, c5, c6, c7⟩ : ((nd, tip) :: rest ≠ []) ∧ ∃ tip', tip' ≠ bf ∧ tip' ≤ tn T' ∧ ch e = 41 ∧ p + 1 ≤ e ∧ blk ch e = e ∧ ∀ k : Nat, N < p + 1 + (k : Int) → ∃ k' : Nat, N < e + (k' : Int) ∧ mach ch N st k (p + 1) ((bf, bf) :: (nd, tip) :: rest) T = mach ch N st k' e ((bf, tip') :: (nd, tip) :: rest) T' := by
          rcases a4 with ⟨c1, -⟩ | a4
          · cases c1
          · exact a4
        obtain ⟨rv4, e4N, -⟩ := id a2
        have i437 := rv4.2.2.2.1
        have e0 := rv4.2.2.2.2
        have eN : e < N := by
          by_cases q : e < N
          · exact q
          · have := hz e (by omega); omega
        unfold f_readLine_178 at hf
        rcases m_ifE hf with ⟨-, hf⟩ | ⟨c, hf⟩
        · obtain ⟨v1, e1, hf⟩ := m_bndE hf
          have t1 : v1.toInt = (I4 37).toInt + 1 := ti_add e1 rfl (show (1 : Int32).toInt = 1 from rfl) (by omega) (by omega)
          unfold f_readLine_199 at hf
          obtain ⟨I5, e5, hf⟩ := m_bndE hf
          have R5 : RV I5 A4 ch N (e + 1) := rv_at rv4 e5 (by omega) (by omega)
          have S5 := rs_hi a2 R5 (by omega) (fun _ _ => rfl) (fun j hj => by rw [e5, upd_ne (n37 hj)])
          rcases m_ifE hf with ⟨-, hf⟩ | ⟨c, hf⟩
          · obtain ⟨⟨r2, I6, A6⟩, h_r2, hf⟩ := m_clE hf
            dsimp only at hf
            unfold f_readLine_219 at hf
            have g2 := rs_rk S5 h1 h4 (Nat.le_trans htt a3.1) h_r2
            dsimp only at g2
            have st2 : ∀ k' : Nat, mach ch N st (k' + 1) e ((bf, tip') :: (nd, tip) :: rest) T' = match rmkP ch N 2001 (blk ch (e + 1)) (tR T' tip) with
                | none => none
                | some (e2, w) => mach ch N st k' e2 ((nd, tip) :: rest) (rkT T' tip w) := fun k' => by
              rw [mc_c (fun q => by cases q.1) ⟨c2, (fun q => by cases q), by rw [c6]; exact c4⟩, c6]
              rfl
            rcases g2 with ⟨e2, w, b1, b2, b3⟩ | ⟨b1, b2, b3⟩
            · have ge2 : e + 1 ≤ e2 := by
                have q1 := rmkP_b hz _ _ _ _ _ b1
                have q2 := (blk_b (p := e + 1) hz).2
                omega
              have fe2 := rmkP_f hz _ _ _ _ _ (blk_i hz) b1
              have key := ih r2 I6 A6 e2 (rkT T' tip w) b2 (Nat.le_trans htt a3.1) (by show (tP T' tip).toNat = bf; rw [a3.2 tip htt]; exact hbf) (Nat.le_trans hbn a3.1) fe2 b3 hf
              refine rlo_up key (ext_t a3 ⟨Nat.le_refl _, fun _ _ => rfl⟩) (by omega) hpN (fun k hk => ?_)
              rw [step k]
              obtain ⟨k', d1, d2⟩ := c7 k (by omega)
              obtain ⟨k2, rfl⟩ : ∃ k2, k' = k2 + 1 := ⟨k' - 1, by omega⟩
              refine ⟨k2, by omega, ?_⟩
              rw [d2, st2 k2, b1]
            · have e9 := rl_113f b2 n hf
              rw [e9]
              refine rlo_no hpN b2 b3 (fun k hk => ?_)
              rw [step k]
              obtain ⟨k', d1, d2⟩ := c7 k (by omega)
              obtain ⟨k2, rfl⟩ : ∃ k2, k' = k2 + 1 := ⟨k' - 1, by omega⟩
              rw [d2, st2 k2, b1]
          · exact absurd (Int32.le_iff_toInt_le.2 (by omega)) c
        · exact absurd (Int32.le_iff_toInt_le.2 (by omega)) c
    have p40 : ch p = 40 → p < N := fun e => by
      by_cases q : p < N
      · exact q
      · have := hz p (by omega); omega
    unfold f_readLine_113s at hf
    rcases m_ifE hf with ⟨-, hf⟩ | ⟨c, hf⟩
    · obtain ⟨r1, h_r1, hf⟩ := m_clR hf (fun _ h => rro_look h)
      have q1 := rv_lk rv h_r1
      dsimp only at q1
      rcases m_ifE hf with ⟨c1, hf⟩ | ⟨c1, hf⟩
      · replace c1 := ti_eqP (a := r1) (b := (40 : Int32)) c1 rfl (show (40 : Int32).toInt = 40 from rfl)
        have c40 : ch p = 40 := by omega
        have pN := p40 c40
        rcases m_ifE hf with ⟨c2, hf⟩ | ⟨c2, hf⟩
        · replace c2 := ti_eqP (a := x3) (b := (6 : Int32)) c2 rfl (show (6 : Int32).toInt = 6 from rfl)
          obtain ⟨r2, h_r2, hf⟩ := m_clR hf (fun _ h => rro_fault h)
          have q2 := v_fault (x1 := 8) (x2 := I 37) (by decide) (by omega) h_r2
          dsimp only at q2
          have z8 : (8 : Int32).toInt = 8 := rfl
          have pos : 0 < r2.toInt := by omega
          have e9 : ∃ I9 : Nat → Int32, (∀ j, j ≠ 37 → I9 j = I j) ∧ o = (r2, (I9, A)) := by
            unfold f_readLine_146 at hf
            obtain ⟨v1, -, hf⟩ := m_bndE hf
            obtain ⟨I2, e2, hf⟩ := m_bndE hf
            rcases m_ifE hf with ⟨c, hf⟩ | ⟨-, hf⟩
            · have := Int32.le_iff_toInt_le.1 c; omega
            · unfold f_readLine_178 at hf
              rcases m_ifE hf with ⟨c, hf⟩ | ⟨-, hf⟩
              · have := Int32.le_iff_toInt_le.1 c; omega
              · unfold f_readLine_199 at hf
                obtain ⟨I5, e5, hf⟩ := m_bndE hf
                rcases m_ifE hf with ⟨c, hf⟩ | ⟨-, hf⟩
                · have := Int32.le_iff_toInt_le.1 c; omega
                · unfold f_readLine_219 at hf
                  exact ⟨I5, fun j hj => by rw [e5, upd_ne hj, e2, upd_ne hj], rl_113f pos n hf⟩
          obtain ⟨I9, f9, e9⟩ := e9
          rw [e9]
          refine rlo_no hpN pos (rn_hi (rs_n h) (fun _ _ => rfl) (fun j hj => f9 j (n37 hj))) (fun k hk => ?_)
          have nr : ¬ (rest = [] ∧ rsV ch (blk ch p) ≠ -1) := fun e => by
            rw [e.1] at h3
            have : (([] : List (Nat × Nat)).length : Int) = 0 := rfl
            omega
          rw [mc_o nr ⟨htn, by rw [hbp]; exact c40⟩, if_pos (by omega)]
        · replace c2 := ti_eqN (a := x3) (b := (6 : Int32)) c2 rfl (show (6 : Int32).toInt = 6 from rfl)
          unfold f_readLine_146 at hf
          obtain ⟨v1, e1, hf⟩ := m_bndE hf
          obtain ⟨I2, e2, hf⟩ := m_bndE hf
          have t1 : v1.toInt = (I 37).toInt + 1 := ti_add e1 rfl (show (1 : Int32).toInt = 1 from rfl) (by omega) (by omega)
          have R2 : RV I2 A ch N (p + 1) := rv_at rv e2 (by omega) (by omega)
          have S2 := rs_hi h R2 (by omega) (fun _ _ => rfl) (fun j hj => by rw [e2, upd_ne (n37 hj)])
          rcases m_ifE hf with ⟨-, hf⟩ | ⟨c, hf⟩
          · obtain ⟨v3, e3, hf⟩ := m_bndE hf
            have t3 : v3.toInt = x3.toInt + 1 := ti_add e3 rfl (show (1 : Int32).toInt = 1 from rfl) (by omega) (by omega)
            obtain ⟨⟨r4, I4, A4⟩, h_r4, hf⟩ := m_clE hf
            dsimp only at hf
            have g4 := hrec x7 v3 I2 A bf ((nd, tip) :: rest) (p + 1) T _ h7 hbn (by show v3.toInt = ((rest.length + 1 : Nat) : Int); omega) (by show rest.length + 1 ≤ 6; omega) S2 h_r4
            exact aft r4 I4 A4 c40 pN (by omega) g4 hf
          · exact absurd (Int32.le_iff_toInt_le.2 (show (0 : Int32).toInt ≤ (0 : Int32).toInt by decide)) c
      · replace c1 := ti_eqN (a := r1) (b := (40 : Int32)) c1 rfl (show (40 : Int32).toInt = 40 from rfl)
        unfold f_readLine_224 at hf
        rcases m_ifE hf with ⟨-, hf⟩ | ⟨c, hf⟩
        · exact h3c I A p T htt hbp (by omega) h hf
        · exact absurd (Int32.le_iff_toInt_le.2 (by omega)) c
    · exact absurd (Int32.toInt_inj.1 h5) c
end RLS
