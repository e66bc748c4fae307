/-- the k-th legal move -/
noncomputable def LMo (m : Int → Int) (sd rt ps ko : Int) (k : Nat) (v : Int) : Prop := (∃ key, key < 32768 ∧ LR m sd rt ps ko key ∧ cnt (LR m sd rt ps ko) key = k ∧ v = mvk key) ∨ (cnt (LR m sd rt ps ko) 32768 ≤ k ∧ v = -1)
section LGM
variable {S S0 : ZS} {x0 tb bb a t p kk : Nat} {m : Int → Int} {sd rt ps kw kb ko : Int} {o : Int32 × ZS} {x1 x2 x3 x4 x5 : Int32} {I : Nat → Int32} {A : Nat → Nat → Int32} {o2 : Int32 × MS}
theorem lgm_k (hP : POS m sd rt ps kw kb) (hko : ko = if sd = 0 then kw else kb) (ha : a < 64) (ht : t < 64) (hp : p < 8) : LR m sd rt ps ko ((a * 64 + t) * 8 + p) ↔ (rch m sd rt ps (a : Int) (t : Int) ∧ safC m sd ps ko (a : Int) (t : Int) 0 ∧ PRo m (a : Int) (t : Int) (p : Int)) := by
  obtain ⟨a1, a2, a3⟩ := key_e (a := a) (t := t) (p := p) (by omega) (by omega)
  have h := lr_lc (key := (a * 64 + t) * 8 + p) hP hko (by omega)
  rw [a1, a2, a3] at h
  exact h
theorem lgm_0 (hP : POS m sd rt ps kw kb) (hko : ko = if sd = 0 then kw else kb) (ha : a < 64) (ht : t < 64) (h : ¬ (rch m sd rt ps (a : Int) (t : Int) ∧ safC m sd ps ko (a : Int) (t : Int) 0)) : cnt (LR m sd rt ps ko) ((a * 64 + t) * 8 + 8) = cnt (LR m sd rt ps ko) ((a * 64 + t) * 8) :=
  cnt_gap (by omega) (fun j h1 h2 hq => by
    obtain ⟨p, rfl⟩ : ∃ p, j = (a * 64 + t) * 8 + p := ⟨j - (a * 64 + t) * 8, by omega⟩
    have := (lgm_k hP hko ha ht (by omega)).1 hq
    exact h ⟨this.1, this.2.1⟩)
theorem lgm_1 (hP : POS m sd rt ps kw kb) (hko : ko = if sd = 0 then kw else kb) (ha : a < 64) (ht : t < 64) (hr : rch m sd rt ps (a : Int) (t : Int)) (hs : safC m sd ps ko (a : Int) (t : Int) 0) (hn : ¬ (m (a : Int) % 8 = 1 ∧ ((t : Int) < 8 ∨ 56 ≤ (t : Int)))) : LR m sd rt ps ko ((a * 64 + t) * 8) ∧ cnt (LR m sd rt ps ko) ((a * 64 + t) * 8 + 8) = cnt (LR m sd rt ps ko) ((a * 64 + t) * 8) + 1 := by
  have q0 : LR m sd rt ps ko ((a * 64 + t) * 8) := by
    have := (lgm_k (p := 0) hP hko ha ht (by decide)).2 ⟨hr, hs, Or.inl ⟨rfl, hn⟩⟩
    exact this
  refine ⟨q0, ?_⟩
  rw [cnt_gap (n := (a * 64 + t) * 8 + 1) (by omega) (fun j h1 h2 hq => by
    obtain ⟨p, rfl⟩ : ∃ p, j = (a * 64 + t) * 8 + p := ⟨j - (a * 64 + t) * 8, by omega⟩
    have := (lgm_k hP hko ha ht (by omega)).1 hq
    rcases this.2.2 with ⟨h, -⟩ | ⟨-, -, h, h'⟩
    · omega
    · exact hn ⟨h, h'⟩)]
  exact cnt_y q0
theorem lgm_4 (hP : POS m sd rt ps kw kb) (hko : ko = if sd = 0 then kw else kb) (ha : a < 64) (ht : t < 64) (hr : rch m sd rt ps (a : Int) (t : Int)) (hs : safC m sd ps ko (a : Int) (t : Int) 0) (hn : m (a : Int) % 8 = 1 ∧ ((t : Int) < 8 ∨ 56 ≤ (t : Int))) : (∀ i, i < 4 → LR m sd rt ps ko ((a * 64 + t) * 8 + 2 + i) ∧ cnt (LR m sd rt ps ko) ((a * 64 + t) * 8 + 2 + i) = cnt (LR m sd rt ps ko) ((a * 64 + t) * 8) + i) ∧ cnt (LR m sd rt ps ko) ((a * 64 + t) * 8 + 8) = cnt (LR m sd rt ps ko) ((a * 64 + t) * 8) + 4 := by
  have q : ∀ i, i < 4 → LR m sd rt ps ko ((a * 64 + t) * 8 + 2 + i) := fun i hi => by
    have := (lgm_k (p := 2 + i) hP hko ha ht (by omega)).2 ⟨hr, hs, Or.inr ⟨by omega, by omega, hn.1, hn.2⟩⟩
    rw [← Nat.add_assoc] at this
    exact this
  have no : ∀ p, p < 8 → (p < 2 ∨ 5 < p) → ¬ LR m sd rt ps ko ((a * 64 + t) * 8 + p) := fun p hp h hq => by
    have := (lgm_k hP hko ha ht hp).1 hq
    rcases this.2.2 with ⟨-, h9⟩ | ⟨h1, h2, -⟩
    · exact h9 hn
    · omega
  have c0 : cnt (LR m sd rt ps ko) ((a * 64 + t) * 8 + 2) = cnt (LR m sd rt ps ko) ((a * 64 + t) * 8) := cnt_gap (by omega) (fun j h1 h2 hq => by
    obtain ⟨p, rfl⟩ : ∃ p, j = (a * 64 + t) * 8 + p := ⟨j - (a * 64 + t) * 8, by omega⟩
    exact no p (by omega) (by omega) hq)
  have c1 := cnt_y (q 0 (by decide))
  have c2 := cnt_y (q 1 (by decide))
  have c3 := cnt_y (q 2 (by decide))
  have c4 := cnt_y (q 3 (by decide))
  have c5 : cnt (LR m sd rt ps ko) ((a * 64 + t) * 8 + 8) = cnt (LR m sd rt ps ko) ((a * 64 + t) * 8 + 6) := cnt_gap (by omega) (fun j h1 h2 hq => by
    obtain ⟨p, rfl⟩ : ∃ p, j = (a * 64 + t) * 8 + p := ⟨j - (a * 64 + t) * 8, by omega⟩
    exact no p (by omega) (by omega) hq)
  have e0 : (a * 64 + t) * 8 + 2 + 0 = (a * 64 + t) * 8 + 2 := rfl
  have e1 : (a * 64 + t) * 8 + 2 + 1 = (a * 64 + t) * 8 + 3 := rfl
  have e2 : (a * 64 + t) * 8 + 2 + 2 = (a * 64 + t) * 8 + 4 := rfl
  have e3 : (a * 64 + t) * 8 + 2 + 3 = (a * 64 + t) * 8 + 5 := rfl
  rw [e0] at c1
  rw [e1] at c2
  rw [e2] at c3
  rw [e3] at c4
  have f1 : (a * 64 + t) * 8 + 2 + 1 = (a * 64 + t) * 8 + 3 := rfl
  have f2 : (a * 64 + t) * 8 + 3 + 1 = (a * 64 + t) * 8 + 4 := rfl
  have f3 : (a * 64 + t) * 8 + 4 + 1 = (a * 64 + t) * 8 + 5 := rfl
  have f4 : (a * 64 + t) * 8 + 5 + 1 = (a * 64 + t) * 8 + 6 := rfl
  rw [f1] at c1
  rw [f2] at c2
  rw [f3] at c3
  rw [f4] at c4
  refine ⟨fun i hi => ⟨q i hi, ?_⟩, by omega⟩
  rcases (show i = 0 ∨ i = 1 ∨ i = 2 ∨ i = 3 by omega) with e | e | e | e
  · rw [e, e0]; omega
  · rw [e, e1]; omega
  · rw [e, e2]; omega
  · rw [e, e3]; omega
theorem mvk_e (ha : a < 64) (ht : t < 64) (hp : p < 8) : mvk ((a * 64 + t) * 8 + p) = (a : Int) + 64 * (t : Int) + 4096 * (p : Int) := by
  obtain ⟨a1, a2, a3⟩ := key_e (a := a) (t := t) (p := p) (by omega) (by omega)
  unfold mvk
  rw [a1, a2, a3]
theorem lgm_21 {self11 : Nat → Nat → Int32 → Int32 → ZS → Option (Int32 × ZS)} {G : Int32 × ZS → Prop} (hP : POS m sd rt ps kw kb) (hko : ko = if sd = 0 then kw else kb) (ha : a < 64) (h4 : x4.toInt = (a : Int)) (H : ∀ (x3 v : Int32) (S : ZS), v.toInt = (a : Int) + 1 → 0 ≤ x3.toInt → (kk : Int) = (cnt (LR m sd rt ps ko) ((a + 1) * 64 * 8) : Int) + x3.toInt → BX S x0 tb bb m sd rt ps kw kb → SB S0 S tb → self11 x0 bb x3 v S = some o → G o) (Hr : ∀ (v : Int32) (S : ZS), LMo m sd rt ps ko kk v.toInt → SB S0 S tb → G (v, S)) : ∀ (n : Nat) (x3 x5 : Int32) (S : ZS) (t : Nat), x5.toInt = (t : Int) → t ≤ 64 → 0 ≤ x3.toInt → (kk : Int) = (cnt (LR m sd rt ps ko) ((a * 64 + t) * 8) : Int) + x3.toInt → BX S x0 tb bb m sd rt ps kw kb → SB S0 S tb → f_X7_legalMove_21 self11 n x0 bb x3 x4 x5 S = some o → G o := by
  intro n
  have hM := hP.2.1
  induction n with
  | zero => intro x3 x5 S t _ _ _ _ _ _ hf; cases hf
  | succ n ih =>
    intro x3 x5 S t h5 ht h3 hk hB hs hf
    have hf : f_X7_legalMove_21s self11 (f_X7_legalMove_21 self11 n) x0 bb x3 x4 x5 S = some o := hf
    have bx3 : x3.toInt ≤ 2147483647 := (tf_b x3).2
    have z1 : (1 : Int32).toInt = 1 := rfl
    have z64 : (64 : Int32).toInt = 64 := rfl
    have nxt : t < 64 → ∀ {x3 : Int32} {S : ZS}, 0 ≤ x3.toInt → (kk : Int) = (cnt (LR m sd rt ps ko) ((a * 64 + t) * 8 + 8) : Int) + x3.toInt → BX S x0 tb bb m sd rt ps kw kb → SB S0 S tb → f_X7_legalMove_110 self11 (f_X7_legalMove_21 self11 n) x0 bb x3 x4 x5 S = some o → G o := fun htl {x3 S} h3 hk hB hs hh => by
      unfold f_X7_legalMove_110 at hh
      obtain ⟨v1, e1, hh⟩ := m_bndE hh
      have t1 : v1.toInt = x5.toInt + 1 := ti_add e1 rfl z1 (by omega) (by omega)
      refine ih x3 v1 S (t + 1) (by omega) (by omega) h3 ?_ hB hs hh
      rw [show (a * 64 + (t + 1)) * 8 = (a * 64 + t) * 8 + 8 by omega]
      exact hk
    unfold f_X7_legalMove_21s at hf
    rcases m_ifE hf with ⟨d, hf⟩ | ⟨d, hf⟩
    · replace d := ti_leP (a := (64 : Int32)) (b := x5) d z64 rfl
      obtain ⟨v1, e1, hf⟩ := m_bndE hf
      have t1 : v1.toInt = x4.toInt + 1 := ti_add e1 rfl z1 (by omega) (by omega)
      refine H x3 v1 S (by omega) h3 ?_ hB hs hf
      have e64 : t = 64 := by omega
      rw [e64] at hk
      rw [show (a + 1) * 64 * 8 = (a * 64 + 64) * 8 by omega]
      exact hk
    · replace d := ti_leN (a := (64 : Int32)) (b := x5) d z64 rfl
      have htl : t < 64 := by omega
      obtain ⟨v2, e2, hf⟩ := m_bndE hf
      obtain ⟨v3, e3, hf⟩ := m_bndE hf
      have s2 : v2.toInt = 64 * x5.toInt := ti_mul e2 z64 rfl (by omega) (by omega)
      have s3 : v3.toInt = x4.toInt + v2.toInt := ti_add e3 rfl rfl (by omega) (by omega)
      obtain ⟨-, hf⟩ := m_chkE hf
      obtain ⟨r4, h_4, hf⟩ := m_calR hf (fun _ h => ro_X0_reaches h)
      obtain ⟨-, b4, q4⟩ := bx_reach hB hM hP.2.2.2.2.2.2.1 (by omega) (by omega) h_4
      dsimp only at b4 q4 hf
      rw [h4, h5] at q4
      rcases m_ifE hf with ⟨d4, hf⟩ | ⟨d4, hf⟩
      · refine nxt htl h3 ?_ hB hs hf
        rw [lgm_0 hP hko ha htl (fun hh => by have := q4.2 hh.1; rw [d4] at this; exact absurd this (by decide))]
        exact hk
      · have hr : rch m sd rt ps (a : Int) (t : Int) := q4.1 (by
          rcases b4 with b | b
          · exact absurd (i32_of b) d4
          · exact b)
        obtain ⟨-, hf⟩ := m_chkE hf
        obtain ⟨⟨r5, S5⟩, h_5, hf⟩ := m_calE hf
        obtain ⟨B5, sb5, b5, q5⟩ := bx_safe hB hM (by omega) h_5
        dsimp only at hf
        have hs5 : SB S0 S5 tb := sb_t hs sb5
        rw [← hko, show v3.toInt % 64 = (a : Int) by omega, show v3.toInt / 64 % 64 = (t : Int) by omega, show v3.toInt / 4096 = 0 by omega] at q5
        rcases m_ifE hf with ⟨d5, hf⟩ | ⟨d5, hf⟩
        · refine nxt htl h3 ?_ B5 hs5 hf
          rw [lgm_0 hP hko ha htl (fun hh => by have := q5.2 hh.2; rw [d5] at this; exact absurd this (by decide))]
          exact hk
        · have hsf : safC m sd ps ko (a : Int) (t : Int) 0 := q5.1 (by
            rcases b5 with b | b
            · exact absurd (i32_of b) d5
            · exact b)
          obtain ⟨-, hf⟩ := m_chkE hf
          obtain ⟨r6, h_6, hf⟩ := m_calR hf (fun _ h => ro_X0_becomesAnother h)
          obtain ⟨-, b6, q6⟩ := bx_another B5 hM (by omega) h_6
          dsimp only at b6 q6 hf
          rw [h4, h5] at q6
          rcases m_ifE hf with ⟨d6, hf⟩ | ⟨d6, hf⟩
          · have hn : ¬ (m (a : Int) % 8 = 1 ∧ ((t : Int) < 8 ∨ 56 ≤ (t : Int))) := fun hh => by
              have := q6.2 hh
              rw [d6] at this
              exact absurd this (by decide)
            obtain ⟨l1, l2⟩ := lgm_1 hP hko ha htl hr hsf hn
            unfold f_X7_legalMove_75 at hf
            rcases m_ifE hf with ⟨d7, hf⟩ | ⟨d7, hf⟩
            · replace d7 := ti_leP (a := (1 : Int32)) (b := x3) d7 z1 rfl
              obtain ⟨w1, g1, hf⟩ := m_bndE hf
              have u1 : w1.toInt = x3.toInt - 1 := ti_sub g1 rfl z1 (by omega) (by omega)
              exact nxt htl (by omega) (by rw [l2]; omega) B5 hs5 hf
            · replace d7 := ti_leN (a := (1 : Int32)) (b := x3) d7 z1 rfl
              rcases m_ifE hf with ⟨-, hf⟩ | ⟨d8, hf⟩
              · unfold f_X7_legalMove_104 at hf
                cases hf
                refine Hr v3 S5 (Or.inl ⟨(a * 64 + t) * 8, by omega, l1, by omega, ?_⟩) hs5
                have := mvk_e (p := 0) ha htl (by decide)
                rw [Nat.add_zero] at this
                rw [this]
                omega
              · exact absurd rfl d8
          · have hn : m (a : Int) % 8 = 1 ∧ ((t : Int) < 8 ∨ 56 ≤ (t : Int)) := q6.1 (by
              rcases b6 with b | b
              · exact absurd (i32_of b) d6
              · exact b)
            obtain ⟨l1, l2⟩ := lgm_4 hP hko ha htl hr hsf hn
            have z4 : (4 : Int32).toInt = 4 := rfl
            unfold f_X7_legalMove_75 at hf
            rcases m_ifE hf with ⟨d7, hf⟩ | ⟨d7, hf⟩
            · replace d7 := ti_leP (a := (4 : Int32)) (b := x3) d7 z4 rfl
              obtain ⟨w1, g1, hf⟩ := m_bndE hf
              have u1 : w1.toInt = x3.toInt - 4 := ti_sub g1 rfl z4 (by omega) (by omega)
              exact nxt htl (by omega) (by rw [l2]; omega) B5 hs5 hf
            · replace d7 := ti_leN (a := (4 : Int32)) (b := x3) d7 z4 rfl
              rcases m_ifE hf with ⟨d8, hf⟩ | ⟨-, hf⟩
              · exact absurd d8 (by decide)
              · obtain ⟨w2, g2, hf⟩ := m_bndE hf
                obtain ⟨w3, g3, hf⟩ := m_bndE hf
                obtain ⟨w4, g4, hf⟩ := m_bndE hf
                have u2 : w2.toInt = 2 + x3.toInt := ti_add g2 (show (2 : Int32).toInt = 2 from rfl) rfl (by omega) (by omega)
                have u3 : w3.toInt = 4096 * w2.toInt := ti_mul g3 (show (4096 : Int32).toInt = 4096 from rfl) rfl (by omega) (by omega)
                have u4 : w4.toInt = v3.toInt + w3.toInt := ti_add g4 rfl rfl (by omega) (by omega)
                unfold f_X7_legalMove_104 at hf
                cases hf
                obtain ⟨k1, k2⟩ := l1 x3.toInt.toNat (by omega)
                refine Hr w4 S5 (Or.inl ⟨(a * 64 + t) * 8 + 2 + x3.toInt.toNat, by omega, k1, by omega, ?_⟩) hs5
                have := mvk_e (p := 2 + x3.toInt.toNat) ha htl (by omega)
                rw [← Nat.add_assoc] at this
                rw [this]
                omega
theorem lgm_11 (hP : POS m sd rt ps kw kb) (hko : ko = if sd = 0 then kw else kb) : ∀ (n : Nat) (x3 x4 : Int32) (S : ZS) (a : Nat), x4.toInt = (a : Int) → a ≤ 64 → 0 ≤ x3.toInt → (kk : Int) = (cnt (LR m sd rt ps ko) (a * 64 * 8) : Int) + x3.toInt → BX S x0 tb bb m sd rt ps kw kb → SB S0 S tb → f_X7_legalMove_11 n x0 bb x3 x4 S = some o → LMo m sd rt ps ko kk o.1.toInt ∧ SB S0 o.2 tb := by
  intro n
  induction n with
  | zero => intro x3 x4 S a _ _ _ _ _ _ hf; cases hf
  | succ n ih =>
    intro x3 x4 S a h4 ha h3 hk hB hs hf
    have hf : f_X7_legalMove_11s (f_X7_legalMove_11 n) x0 bb x3 x4 S = some o := hf
    have z64 : (64 : Int32).toInt = 64 := rfl
    unfold f_X7_legalMove_11s at hf
    rcases m_ifE hf with ⟨d, hf⟩ | ⟨d, hf⟩
    · replace d := ti_leP (a := (64 : Int32)) (b := x4) d z64 rfl
      have e64 : a = 64 := by omega
      rw [e64] at hk
      cases hf
      exact ⟨Or.inr ⟨by have : 64 * 64 * 8 = 32768 := rfl; rw [this] at hk; omega, rfl⟩, hs⟩
    · replace d := ti_leN (a := (64 : Int32)) (b := x4) d z64 rfl
      exact lgm_21 (kk := kk) (S0 := S0) (G := fun o => LMo m sd rt ps ko kk o.1.toInt ∧ SB S0 o.2 tb) hP hko (by omega) h4 (fun x3 v S h1 h2 h5 hB hs hf => ih x3 v S (a + 1) (by omega) (by omega) h2 h5 hB hs hf) (fun v S hl hs => ⟨hl, hs⟩) mFuel x3 0 S 0 rfl (by decide) h3 (by rw [Nat.add_zero]; exact hk) hB hs hf
theorem p_legalMove (hB : BX S x0 tb bb m sd rt ps kw kb) (hP : POS m sd rt ps kw kb) (hko : ko = if sd = 0 then kw else kb) (hf : f_X7_legalMove x0 bb x2 S = some o) : (0 ≤ x2.toInt ∧ LMo m sd rt ps ko x2.toInt.toNat o.1.toInt) ∨ (x2.toInt < 0 ∧ o.1.toInt = -1) := by
  have hf : f_X7_legalMove_0 x0 bb x2 S = some o := hf
  have z0 : (0 : Int32).toInt = 0 := rfl
  unfold f_X7_legalMove_0 at hf
  rcases m_ifE hf with ⟨d, hf⟩ | ⟨d, hf⟩
  · replace d := ti_leP (a := (0 : Int32)) (b := x2) d z0 rfl
    exact Or.inl ⟨d, (lgm_11 (kk := x2.toInt.toNat) (S0 := S) hP hko mFuel x2 0 S 0 rfl (by decide) d (by
      have : cnt (LR m sd rt ps ko) (0 * 64 * 8) = 0 := by rw [show 0 * 64 * 8 = 0 from rfl]; exact cnt_0 (fun j hj => absurd hj (Nat.not_lt_zero _))
      rw [this]; omega) hB sb_0 hf).1⟩
  · replace d := ti_leN (a := (0 : Int32)) (b := x2) d z0 rfl
    cases hf
    exact Or.inr ⟨d, rfl⟩
theorem an_move {o : Int32 × ZS} (hC : CG S) (hR : RIt I A) (h : FM I A S) (h2 : f_move x1 I A = some o2) (ho : f_X11_move 1 x1 S = some o) : o.1 = o2.1 := by
  obtain ⟨hm, g, L, st, T, r, c, w⟩ := h
  obtain ⟨-, -, -, bo, qs⟩ := id w
  obtain ⟨pg, pn1, pn2⟩ := fw_pg w
  have hf : f_X11_move_0 1 x1 S = some o := ho
  have hr : f_move_0 x1 I A = some o2 := h2
  have z0 : (0 : Int32).toInt = 0 := rfl
  have k5 : zK S 5 = 0 := fx_k hC.2.2.1 (by decide) (by decide)
  have B := bx_of (x0 := 4) (tb := 5) hC (fx_k hC.2.2.1 (by decide) (by decide)) (fx_p hC.2.2.1 (by decide)) k5 (fx_p hC.2.2.1 (by decide)) (by decide) bo pg ⟨by omega, by omega⟩
  unfold f_X11_move_0 at hf
  obtain ⟨-, hf⟩ := m_chkE hf
  replace hf := m_calY hf (show zP S 2 1 = some 4 from fx_p hC.2.2.1 (by decide))
  obtain ⟨-, hf⟩ := m_chkE hf
  replace hf := m_calY hf (show zP S 9 1 = some 107 from fx_p hC.2.2.1 (by decide))
  obtain ⟨-, hf⟩ := m_chkE hf
  obtain ⟨⟨y3, S3⟩, h_3, hf⟩ := m_calE hf
  have V := p_legalMove (ko := oko (posT st T c)) B pg rfl h_3
  dsimp only at V
  have eo := (Option.some.inj hf).symm
  unfold f_move_0 at hr
  obtain ⟨I1, e1, hr⟩ := m_bndE hr
  have j33 : I1 33 = I 33 := by rw [e1, upd_ne (by decide)]
  have m1 := qs.2.1
  have neg : f_move_17 I1 A = some o2 → y3.toInt = -1 → o.1 = o2.1 := fun hh hy => by
    unfold f_move_17 f_move_27 at hh
    have e2 := (Option.some.inj hh).symm
    rw [eo, e2]
    exact Int32.toInt_inj.1 (by show y3.toInt = (-1 : Int32).toInt; rw [hy]; rfl)
  rcases m_ifE hr with ⟨d, hr⟩ | ⟨d, hr⟩
  · replace d := ti_ltP (a := x1) (b := (0 : Int32)) d rfl z0
    refine neg hr ?_
    rcases V with ⟨h1, -⟩ | ⟨-, h1⟩
    · omega
    · exact h1
  · replace d := ti_ltN (a := x1) (b := (0 : Int32)) d rfl z0
    have LM : LMo (om (posT st T c)) (osd (posT st T c)) (ort (posT st T c)) (ops (posT st T c)) (oko (posT st T c)) x1.toInt.toNat y3.toInt := by
      rcases V with ⟨-, h1⟩ | ⟨h1, -⟩
      · exact h1
      · omega
    rcases m_ifE hr with ⟨d2, hr⟩ | ⟨d2, hr⟩
    · replace d2 := ti_ltP (a := x1) (b := I1 33) d2 rfl rfl
      rw [j33] at d2
      obtain ⟨-, hr⟩ := m_chkE hr
      obtain ⟨v2, e2, hr⟩ := m_bndE hr
      rw [cl_n (n := x1.toInt.toNat) (by omega)] at e2
      unfold f_move_27 at hr
      have eo2 := (Option.some.inj hr).symm
      rcases LM with ⟨key, q1, q2, q3, q4⟩ | ⟨q1, -⟩
      · have := qs.2.2 key q1 q2
        rw [q3] at this
        rw [eo, eo2]
        exact Int32.toInt_inj.1 (by show y3.toInt = v2.toInt; rw [q4, e2]; exact this.symm)
      · omega
    · replace d2 := ti_ltN (a := x1) (b := I1 33) d2 rfl rfl
      rw [j33] at d2
      refine neg hr ?_
      rcases LM with ⟨key, q1, q2, q3, -⟩ | ⟨-, q2⟩
      · have := cnt_lt q2 q1
        omega
      · exact q2
end LGM
