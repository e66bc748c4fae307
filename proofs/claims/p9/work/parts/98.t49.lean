section RKD
variable {S0 S S' : ZS} {x1 : Nat} {ch : Int → Int} {N p q : Int} {r : List Int} {o : Int32 × ZS} {x2 x3 x4 x5 t0 : Int32}
/-- how one remark ends, by the class -/
def RRo (S : ZS) (x1 : Nat) (ch : Int → Int) (N p : Int) (r : List Int) (o : Int32 × ZS) : Prop := (∃ q, o.1.toInt = 1 ∧ RM1 ch N p q ∧ ((jnR r ch (p + 1) (q - (p + 1)).toNat).length : Int) ≤ 200 ∧ LW o.2 ch N (if N < q + 1 then N else q + 1) ∧ FR (fun a => a = 23 ∨ a = x1 + 1) S o.2 ∧ NDo o.2 x1 (jnR r ch (p + 1) (q - (p + 1)).toNat)) ∨ (o.1.toInt = 0 ∧ ((∀ q, ¬ RM1 ch N p q) ∨ ∃ q, RM1 ch N p q ∧ 200 < ((jnR r ch (p + 1) (q - (p + 1)).toNat).length : Int)) ∧ (∃ p', LW o.2 ch N p') ∧ FR (fun a => a = 23 ∨ a = x1 + 1) S o.2)
theorem rr_ok (h : LW S ch N p) (hN : NDo S x1 r) (hr : (r.length : Int) ≤ 200) (h2 : x2.toInt = p) (h5 : x5.toInt = q) (hpN : p < N) (hq : RM1 ch N p q) (hf : d_X2_readRemark_91 23 x1 x2 x5 S = some o) : RRo S x1 ch N p r o := by
  rcases rr_91 h hN hr h2 h5 hpN hq hf with ⟨a1, a2, a3, a4, a5⟩ | ⟨a1, a2, a3⟩
  · exact Or.inl ⟨q, a1, hq, a2, a3, a4, a5⟩
  · exact Or.inr ⟨a1, Or.inr ⟨q, hq, a2⟩, a3⟩
theorem rr_83 (h : LW S ch N p) (h4 : 0 ≤ x4.toInt ∧ x4.toInt ≤ 100000) (hn : ∀ q, ¬ RM1 ch N p q) (hf : d_X2_readRemark_83 23 x4 S = some o) : RRo S x1 ch N p r o := by
  unfold d_X2_readRemark_83 at hf
  obtain ⟨-, hf⟩ := m_chkE hf
  obtain ⟨⟨r1, S1c⟩, h_r1, hf⟩ := m_calE hf
  dsimp only at hf
  obtain ⟨b1, b2, b3⟩ := lw_no (x1 := 1) (x2 := x4) h (by decide) (by omega) h_r1
  dsimp only at b1 b2 b3
  obtain ⟨-, hf⟩ := m_chkE hf
  obtain ⟨-, hf⟩ := m_chkE hf
  cases hf
  try dsimp only
  exact Or.inr ⟨b1, Or.inl hn, ⟨p, b2⟩, fr_m b3 (fun a _ e => Or.inl e)⟩
theorem rr_55 (h : LW S ch N p) (hN : NDo S x1 r) (hr : (r.length : Int) ≤ 200) (h2 : x2.toInt = p) (hpN : p < N) (h3 : (x3.toInt = 1 ∧ ch p = 123) ∨ (x3.toInt = 0 ∧ ch p = 59)) (h4 : IX ch N 125 p x4.toInt) (h5 : (x3.toInt = 1 → t0 = x4) ∧ (x3.toInt = 0 → IX ch N 10 p t0.toInt)) (hf : d_X2_readRemark_55 23 x1 x2 x3 x4 t0 S = some o) : RRo S x1 ch N p r o := by
  obtain ⟨hT, ⟨k23, p2, k2⟩, ⟨hc, hN1, hn⟩, hcb, h44, hp⟩ := id h
  obtain ⟨i1, i2, i3, i4⟩ := h4
  unfold d_X2_readRemark_55 at hf
  rcases m_ifE hf with ⟨c1, hf⟩ | ⟨c1, hf⟩
  · skip
    replace c1 := ti_eqP (a := x3) (b := (0 : Int32)) c1 rfl (show (0 : Int32).toInt = 0 from rfl)
    have e59 : ch p = 59 := by omega
    obtain ⟨j1, j2, j3, j4⟩ := h5.2 (by omega)
    have t0p : p < t0.toInt := by
      rcases j3 with j | j
      · omega
      · by_cases e : t0.toInt = p
        · rw [e] at j; omega
        · omega
    rcases m_ifE hf with ⟨c2, hf⟩ | ⟨c2, hf⟩
    · skip
      replace c2 := ti_leP (a := t0) (b := x4) c2 rfl rfl
      refine rr_ok (q := t0.toInt) h hN hr h2 rfl hpN (Or.inr ⟨e59, by omega, by omega, ?_, fun j j0 j1 => ⟨j2 j (by omega) j1, i2 j (by omega) (by omega)⟩⟩) hf
      rcases j3 with j | j
      · exact Or.inl (by omega)
      · exact Or.inr j
    · skip
      replace c2 := ti_leN (a := t0) (b := x4) c2 rfl rfl
      refine rr_83 h (by omega) (fun q hq => ?_) hf
      have c125 : ch x4.toInt = 125 := by
        rcases i3 with i | i
        · omega
        · exact i
      rcases hq with g | ⟨g1, g2, g3, g4, g5⟩
      · omega
      · have x4p : p + 1 ≤ x4.toInt := by
          by_cases e : x4.toInt = p
          · rw [e] at c125; omega
          · omega
        by_cases l : x4.toInt < q
        · exact (g5 x4.toInt x4p l).2 c125
        · rcases g4 with g4 | g4
          · omega
          · by_cases e : q = x4.toInt
            · rw [e] at g4; omega
            · exact j2 q (by omega) (by omega) g4
  · skip
    replace c1 := ti_eqN (a := x3) (b := (0 : Int32)) c1 rfl (show (0 : Int32).toInt = 0 from rfl)
    have e123 : ch p = 123 := by omega
    have et := h5.1 (by omega)
    obtain ⟨-, hf⟩ := m_chkE hf
    replace hf := m_calY hf p2
    obtain ⟨-, hf⟩ := m_chkE hf
    obtain ⟨r2, h_r2, hf⟩ := m_calR hf (fun _ h => ro_X6_size h)
    dsimp only at hf
    have p_r2 := pc_X6_size h_r2
    dsimp only at p_r2
    have q2 : r2.toInt = N := by rw [p_r2]; exact hN1
    obtain ⟨-, hf⟩ := m_chkE hf
    rcases m_ifE hf with ⟨c3, hf⟩ | ⟨c3, hf⟩
    · skip
      replace c3 := ti_eqP (a := x4) (b := r2) c3 rfl rfl
      refine rr_83 h (by omega) (fun q hq => ?_) hf
      rcases hq with ⟨g1, g2, g3, g4, g5⟩ | g
      · exact i2 q (by omega) (by omega) g4
      · omega
    · skip
      replace c3 := ti_eqN (a := x4) (b := r2) c3 rfl rfl
      rw [et] at hf
      have c125 : ch x4.toInt = 125 := by
        rcases i3 with i | i
        · omega
        · exact i
      have x4p : p + 1 ≤ x4.toInt := by
        by_cases e : x4.toInt = p
        · rw [e] at c125; omega
        · omega
      exact rr_ok (q := x4.toInt) h hN hr h2 rfl hpN (Or.inl ⟨e123, x4p, by omega, c125, fun j j0 j1 => i2 j (by omega) j1⟩) hf
theorem rr_23 (h : LW S ch N p) (hN : NDo S x1 r) (hr : (r.length : Int) ≤ 200) (h2 : x2.toInt = p) (hpN : p < N) (h3 : (t0.toInt = 1 ∧ ch p = 123) ∨ (t0.toInt = 0 ∧ ch p = 59)) (hf : d_X2_readRemark_23 23 x1 x2 t0 S = some o) : RRo S x1 ch N p r o := by
  obtain ⟨hT, ⟨k23, p2, k2⟩, ⟨hc, hN1, hn⟩, hcb, h44, hp⟩ := id h
  have z125 : (125 : Int32).toInt = 125 := rfl
  have z10 : (10 : Int32).toInt = 10 := rfl
  unfold d_X2_readRemark_23 at hf
  obtain ⟨-, hf⟩ := m_chkE hf
  replace hf := m_calY hf p2
  obtain ⟨-, hf⟩ := m_chkE hf
  obtain ⟨r2, h_r2, hf⟩ := m_calR hf (fun _ h => ro_X6_indexOf h)
  dsimp only at hf
  obtain ⟨-, q2⟩ := p_ixOf (by omega) (by omega) h_r2
  dsimp only at q2
  rw [hc, hN1, z125, h2] at q2
  obtain ⟨-, hf⟩ := m_chkE hf
  rcases m_ifE hf with ⟨c1, hf⟩ | ⟨c1, hf⟩
  · skip
    replace c1 := ti_eqP (a := t0) (b := (0 : Int32)) c1 rfl (show (0 : Int32).toInt = 0 from rfl)
    obtain ⟨-, hf⟩ := m_chkE hf
    replace hf := m_calY hf p2
    obtain ⟨-, hf⟩ := m_chkE hf
    obtain ⟨r4, h_r4, hf⟩ := m_calR hf (fun _ h => ro_X6_indexOf h)
    dsimp only at hf
    obtain ⟨-, q4⟩ := p_ixOf (by omega) (by omega) h_r4
    dsimp only at q4
    rw [hc, hN1, z10, h2] at q4
    obtain ⟨-, hf⟩ := m_chkE hf
    exact rr_55 h hN hr h2 hpN h3 q2 ⟨fun e => by omega, fun _ => q4⟩ hf
  · skip
    replace c1 := ti_eqN (a := t0) (b := (0 : Int32)) c1 rfl (show (0 : Int32).toInt = 0 from rfl)
    exact rr_55 h hN hr h2 hpN h3 q2 ⟨fun _ => rfl, fun e => by omega⟩ hf
theorem p_readRemark (h : LW S ch N p) (hN : NDo S x1 r) (hr : (r.length : Int) ≤ 200) (hc0 : ch p = 123 ∨ ch p = 59) (hf : d_X2_readRemark 23 x1 S = some o) : RRo S x1 ch N p r o := by
  have hf : d_X2_readRemark_0 23 x1 S = some o := hf
  obtain ⟨hT, ⟨k23, p2, k2⟩, ⟨hc, hN1, hn⟩, hcb, h44, hp⟩ := id h
  have hpN : p < N := by
    by_cases e : p < N
    · exact e
    · have := lw_out h (show N ≤ p by omega); omega
  unfold d_X2_readRemark_0 at hf
  obtain ⟨-, hf⟩ := m_chkE hf
  obtain ⟨-, hf⟩ := m_chkE hf
  replace hf := m_calY hf p2
  obtain ⟨-, hf⟩ := m_chkE hf
  obtain ⟨r2, h_r2, hf⟩ := m_calR hf (fun _ h => ro_X6_at h)
  dsimp only at hf
  have p_r2 := pc_X6_at h_r2
  dsimp only at p_r2
  rw [hc, h44] at p_r2
  obtain ⟨-, hf⟩ := m_chkE hf
  rcases m_ifE hf with ⟨c1, hf⟩ | ⟨c1, hf⟩
  · skip
    replace c1 := ti_eqP (a := r2) (b := (123 : Int32)) c1 rfl (show (123 : Int32).toInt = 123 from rfl)
    exact rr_23 (t0 := 1) h hN hr h44 hpN (Or.inl ⟨rfl, by omega⟩) hf
  · skip
    replace c1 := ti_eqN (a := r2) (b := (123 : Int32)) c1 rfl (show (123 : Int32).toInt = 123 from rfl)
    exact rr_23 (t0 := 0) h hN hr h44 hpN (Or.inr ⟨rfl, by omega⟩) hf
theorem blk_s {ch : Int → Int} {a b : Int} (h : ch a = 32 ∨ ch a = 10) (g : BL ch (a + 1) b) : blk ch a = b := blk_e (bl_s h g)
/-- how the remarks end, by the class -/
def RKo (S : ZS) (x1 : Nat) (ch : Int → Int) (N : Int) (z : Option (Int × List Int)) (o : Int32 × ZS) : Prop := (∃ e w, z = some (e, w) ∧ o.1.toInt = 1 ∧ ((w.length : Int) ≤ 200 ∧ e ≤ N) ∧ LW o.2 ch N e ∧ FR (fun a => a = 23 ∨ a = x1 + 1) S o.2 ∧ NDo o.2 x1 w) ∨ (z = none ∧ o.1.toInt = 0 ∧ (∃ p', LW o.2 ch N p') ∧ FR (fun a => a = 23 ∨ a = x1 + 1) S o.2)
theorem rk_8 : ∀ (n : Nat) (x2 x3 : Int32) (S : ZS) (p : Int) (r : List Int) (k : Nat), x2.toInt = 1 → (0 ≤ x3.toInt ∧ x3.toInt ≤ p) → N < p + (k : Int) → 1 ≤ k → LW S ch N p → FR (fun a => a = 23 ∨ a = x1 + 1) S0 S → NDo S x1 r → (r.length : Int) ≤ 200 → p ≤ N → d_X2_readRemarks_8 n 23 x1 x2 x3 S = some o → RKo S0 x1 ch N (rmkP ch N k p r) o := by
  intro n
  induction n with
  | zero => intro x2 x3 S p r k _ _ _ _ _ _ _ _ _ hf; cases hf
  | succ n ih =>
    intro x2 x3 S p r k h2 h3 hk hk1 h hF hN hr hpN hf
    have hf : d_X2_readRemarks_8s (d_X2_readRemarks_8 n) 23 x1 x2 x3 S = some o := hf
    obtain ⟨k2', rfl⟩ : ∃ k2, k = k2 + 1 := ⟨k - 1, by omega⟩
    obtain ⟨hT, ⟨k23, p2, k2⟩, ⟨hc, hN1, hn⟩, hcb, h44, hp⟩ := id h
    have stop : ¬ (ch p = 123 ∨ ch p = 59) → d_X2_readRemarks_67 x2 S = some o → RKo S0 x1 ch N (rmkP ch N (k2' + 1) p r) o := by
      intro hs hf
      unfold d_X2_readRemarks_67 at hf
      obtain ⟨-, hf⟩ := m_chkE hf
      cases hf
      exact Or.inl ⟨p, r, rkP_0 hs, h2, ⟨hr, hpN⟩, h, hF, hN⟩
    have more : (ch p = 123 ∨ ch p = 59) → d_X2_readRemarks_51 (d_X2_readRemarks_8 n) 23 x1 x3 S = some o → RKo S0 x1 ch N (rmkP ch N (k2' + 1) p r) o := by
      intro hs hf
      unfold d_X2_readRemarks_51 at hf
      obtain ⟨-, hf⟩ := m_chkE hf
      obtain ⟨⟨r2, S3⟩, h_r2, hf⟩ := m_cal2E hf
      dsimp only at hf
      have g2 := p_readRemark h hN hr hs h_r2
      have pN : p < N := by
        by_cases e : p < N
        · exact e
        · have := lw_out h (show N ≤ p by omega); omega
      obtain ⟨-, hf⟩ := m_chkE hf
      obtain ⟨⟨r6, S6c⟩, h_r6, hf⟩ := m_calE hf
      dsimp only at hf
      obtain ⟨-, hf⟩ := m_chkE hf
      obtain ⟨v7, e_v7, hf⟩ := m_bndE hf
      have t_v7 : v7.toInt = x3.toInt + 1 := ti_add e_v7 rfl (show (1 : Int32).toInt = 1 from rfl) (by omega) (by omega)
      rcases g2 with ⟨q, b1, b2, b3, b4, b5, b6⟩ | ⟨b1, b2, ⟨p', b3⟩, b4⟩
      · dsimp only at b1 b4 b5 b6
        have hq : p + 1 ≤ q ∧ q ≤ N := by rcases b2 with g | g <;> omega
        obtain ⟨d1, d2, d3, d4⟩ := lw_bl b4 h_r6
        dsimp only at d2 d3
        have eb : blk ch (if N < q + 1 then N else q + 1) = blk ch (if ch p = 123 then q + 1 else q) := by
          rcases b2 with ⟨g1, g2, g3, g4, g5⟩ | ⟨g1, g2, g3, g4, g5⟩
          · rw [if_neg (by omega), if_pos g1]
          · rw [if_neg (show ¬ ch p = 123 by omega)]
            by_cases c : q = N
            · rw [if_pos (by omega), c]
            · rw [if_neg (by omega)] at d1 ⊢
              exact (blk_s (Or.inr (by omega)) d1).symm
        rw [rkP_s b2 b3, ← eb]
        have hz : p + 1 ≤ (if N < q + 1 then N else q + 1) ∧ (if N < q + 1 then N else q + 1) ≤ N := by
          split <;> omega
        have bge : p + 1 ≤ blk ch (if N < q + 1 then N else q + 1) := by
          have := d1.1
          omega
        refine ih r2 v7 S6c _ _ k2' b1 (by omega) (by omega) (by omega) d2 (fr_t hF (fr_t b5 (fr_m d3 (fun a _ e => Or.inl e)))) ?_ b3 ?_ hf
        · have n23 : (23 : Nat) ≠ x1 + 1 := fun e => by
            have k6 := hN.1.2.2.1
            rw [← e, k23] at k6; exact absurd k6 (by decide)
          exact ndo_fr b6 d3 (eqc_rl (fr_e d3 (by rw [b6.1.2.2.1]; decide) (fun e => n23 e.symm)) b6.1.2.2.1 b6.2)
        · omega
      · dsimp only at b1 b3 b4
        obtain ⟨-, d2, d3, -⟩ := lw_bl b3 h_r6
        dsimp only at d2 d3
        have F9 := fr_t hF (fr_t b4 (fr_m d3 (fun a _ e => Or.inl e)))
        have en : rmkP ch N (k2' + 1) p r = none := by
          rcases b2 with b2 | ⟨q, b2, b3⟩
          · exact rkP_n hs b2
          · exact rkP_l b2 b3
        rw [en]
        refine Or.inr ⟨rfl, ?_⟩
        cases n with
        | zero => cases hf
        | succ n =>
          have hf : d_X2_readRemarks_8s (d_X2_readRemarks_8 n) 23 x1 r2 v7 S6c = some o := hf
          unfold d_X2_readRemarks_8s d_X2_readRemarks_67 at hf
          rcases m_ifE hf with ⟨-, hf⟩ | ⟨-, hf⟩
          · obtain ⟨-, hf⟩ := m_chkE hf
            cases hf
            exact ⟨b1, ⟨_, d2⟩, F9⟩
          · rcases m_ifE hf with ⟨-, hf⟩ | ⟨cz, hf⟩
            · obtain ⟨-, hf⟩ := m_chkE hf
              cases hf
              exact ⟨b1, ⟨_, d2⟩, F9⟩
            · exact absurd (Int32.toInt_inj.1 b1) cz
    unfold d_X2_readRemarks_8s at hf
    rcases m_ifE hf with ⟨c1, hf⟩ | ⟨c1, hf⟩
    · skip
      replace c1 := ti_leP (a := (2000 : Int32)) (b := x3) c1 (show (2000 : Int32).toInt = 2000 from rfl) rfl
      refine stop ?_ hf
      have := lw_out h (show N ≤ p by omega)
      omega
    · skip
      replace c1 := ti_leN (a := (2000 : Int32)) (b := x3) c1 (show (2000 : Int32).toInt = 2000 from rfl) rfl
      rcases m_ifE hf with ⟨c2, hf⟩ | ⟨c2, hf⟩
      · skip
        replace c2 := ti_eqP (a := x2) (b := (0 : Int32)) c2 rfl (show (0 : Int32).toInt = 0 from rfl)
        omega
      · skip
        replace c2 := ti_eqN (a := x2) (b := (0 : Int32)) c2 rfl (show (0 : Int32).toInt = 0 from rfl)
        obtain ⟨-, hf⟩ := m_chkE hf
        replace hf := m_calY hf p2
        obtain ⟨-, hf⟩ := m_chkE hf
        obtain ⟨-, hf⟩ := m_chkE hf
        obtain ⟨r2, h_r2, hf⟩ := m_calR hf (fun _ h => ro_X6_at h)
        dsimp only at hf
        have p_r2 := pc_X6_at h_r2
        dsimp only at p_r2
        rw [hc, h44] at p_r2
        obtain ⟨-, hf⟩ := m_chkE hf
        rcases m_ifE hf with ⟨c3, hf⟩ | ⟨c3, hf⟩
        · skip
          replace c3 := ti_eqP (a := r2) (b := (123 : Int32)) c3 rfl (show (123 : Int32).toInt = 123 from rfl)
          exact more (Or.inl (by omega)) hf
        · skip
          replace c3 := ti_eqN (a := r2) (b := (123 : Int32)) c3 rfl (show (123 : Int32).toInt = 123 from rfl)
          obtain ⟨-, hf⟩ := m_chkE hf
          replace hf := m_calY hf p2
          obtain ⟨-, hf⟩ := m_chkE hf
          obtain ⟨-, hf⟩ := m_chkE hf
          obtain ⟨r4, h_r4, hf⟩ := m_calR hf (fun _ h => ro_X6_at h)
          dsimp only at hf
          have p_r4 := pc_X6_at h_r4
          dsimp only at p_r4
          rw [hc, h44] at p_r4
          obtain ⟨-, hf⟩ := m_chkE hf
          rcases m_ifE hf with ⟨c4, hf⟩ | ⟨c4, hf⟩
          · skip
            replace c4 := ti_eqP (a := r4) (b := (59 : Int32)) c4 rfl (show (59 : Int32).toInt = 59 from rfl)
            exact more (Or.inr (by omega)) hf
          · skip
            replace c4 := ti_eqN (a := r4) (b := (59 : Int32)) c4 rfl (show (59 : Int32).toInt = 59 from rfl)
            exact stop (by omega) hf
/-- the class reads remarks -/
theorem p_readRemarks (h : LW S ch N p) (hpN : p ≤ N) (hN : NDo S x1 r) (hr : (r.length : Int) ≤ 200) (hf : d_X2_readRemarks 23 x1 S = some o) : RKo S x1 ch N (rmkP ch N 2001 (blk ch p) r) o := by
  have hf : d_X2_readRemarks_0 23 x1 S = some o := hf
  have n23 : (23 : Nat) ≠ x1 + 1 := fun e => by
    have k6 := hN.1.2.2.1
    rw [← e, h.2.1.1] at k6; exact absurd k6 (by decide)
  have hn := h.2.2.1.2.2
  unfold d_X2_readRemarks_0 at hf
  obtain ⟨-, hf⟩ := m_chkE hf
  obtain ⟨⟨r1, S1c⟩, h_r1, hf⟩ := m_calE hf
  dsimp only at hf
  obtain ⟨d1, d2, d3, d4⟩ := lw_bl h h_r1
  dsimp only at d2 d3
  have d0 := d2.2.2.2.2.2
  obtain ⟨-, hf⟩ := m_chkE hf
  exact rk_8 (S0 := S) mFuel 1 0 S1c (blk ch p) r 2001 rfl (by have z : (0 : Int32).toInt = 0 := rfl; omega) (by omega) (by decide) d2 (fr_m d3 (fun a _ e => Or.inl e)) (ndo_fr hN d3 (eqc_rl (fr_e d3 (by rw [hN.1.2.2.1]; decide) (fun e => n23 e.symm)) hN.1.2.2.1 hN.2)) hr (by omega) hf
end RKD
