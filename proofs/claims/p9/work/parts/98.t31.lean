/-- the sign that the reference looks at in a value -/
def sgR (I : Nat → Int32) (A : Nat → Nat → Int32) : Int := if (I 39).toInt ≤ (I 38).toInt then 0 else (A 22 (I 38).toInt.toNat).toInt
def vR (A : Nat → Nat → Int32) (b n i : Int) : Int := if i < n then (A 22 (b + i).toNat).toInt else 0
/-- while the reference reads a position: its value, the place in it, the men so far -/
def VJ (I : Nat → Int32) (A : Nat → Nat → Int32) (b n : Int) (V : Int → Int) (p : Int) (m : Int → Int) : Prop := TJ I ∧ TK A ∧ (0 ≤ b ∧ b ≤ 1440 ∧ 0 ≤ n ∧ n ≤ 96) ∧ (I 38).toInt = b + p ∧ (I 39).toInt = b + n ∧ (0 ≤ p ∧ p ≤ 1000) ∧ (∀ i, 0 ≤ i → V i = vR A b n i) ∧ (∀ i, 0 ≤ V i ∧ V i ≤ 127) ∧ mR A = m ∧ MBd m
section VJS
variable {I I' : Nat → Int32} {A A' : Nat → Nat → Int32} {b n p q : Int} {V m m' : Int → Int} {o : Int32 × MS} {x0 x1 x2 : Int32}
theorem pc_sign (hf : f_sign I A = some o) : o.1.toInt = sgR I A := by
  have hf : f_sign_0 I A = some o := hf
  unfold sgR
  unfold f_sign_0 at hf
  rcases m_ifE hf with ⟨c1, hf⟩ | ⟨c1, hf⟩
  · skip
    replace c1 := ti_leP (a := (I 39)) (b := (I 38)) c1 rfl rfl
    unfold f_sign_24 at hf
    obtain ⟨-, hf⟩ := m_chkE hf
    cases hf
    try dsimp only
    rw [if_pos c1]
    rfl
  · skip
    replace c1 := ti_leN (a := (I 39)) (b := (I 38)) c1 rfl rfl
    obtain ⟨-, hf⟩ := m_chkE hf
    obtain ⟨v1, e_v1, hf⟩ := m_bndE hf
    unfold f_sign_24 at hf
    obtain ⟨-, hf⟩ := m_chkE hf
    cases hf
    try dsimp only
    rw [if_neg (by omega), e_v1]
    rfl
theorem vj_sg (h : VJ I A b n V p m) : sgR I A = V p := by
  obtain ⟨-, -, hb, h38, h39, hp, hV, -, -⟩ := h
  rw [hV p hp.1]
  unfold sgR vR
  rw [h38, h39]
  by_cases c : p < n
  · rw [if_neg (by omega), if_pos c]
  · rw [if_pos (by omega), if_neg c]
theorem vj_at {v : Int32} (h : VJ I A b n V p m) (e : I' = upd I 38 v) (hv : v.toInt = b + q) (hq : 0 ≤ q ∧ q ≤ 1000) : VJ I' A b n V q m := by
  obtain ⟨hI, hA, hb, h38, h39, hp, hV, hc, hm, hM⟩ := h
  subst e
  exact ⟨tj_u hI (by show (0 : Int) ≤ _; omega) (by show _ ≤ (4000 : Int); omega), hA, hb, by rw [upd_self]; exact hv, by rw [upd_ne (by decide)]; exact h39, hq, hV, hc, hm, hM⟩
theorem vj_w {k : Nat} {v : Int32} (h : VJ I A b n V p m) (e : I' = upd I k v) (h1 : (tB k).1 ≤ v.toInt) (h2 : v.toInt ≤ (tB k).2) (hk : k ≠ 38) (hk2 : k ≠ 39) : VJ I' A b n V p m := by
  obtain ⟨hI, hA, hb, h38, h39, hp, hV, hc, hm, hM⟩ := h
  subst e
  exact ⟨tj_u hI h1 h2, hA, hb, by rw [upd_ne (fun g => hk g.symm)]; exact h38, by rw [upd_ne (fun g => hk2 g.symm)]; exact h39, hp, hV, hc, hm, hM⟩
theorem vj_m {x v : Int32} (h : VJ I A b n V p m) (e : A' = va_up A 24 (upd (A 24) (x).toNatClampNeg v)) (h1 : 0 ≤ x.toInt) (h2 : x.toInt < 64) (hv : 0 ≤ v.toInt ∧ v.toInt ≤ 14 ∧ v.toInt ≠ 7 ∧ v.toInt ≠ 8) : VJ I A' b n V p (up m x.toInt v.toInt) := by
  obtain ⟨hI, hA, hb, h38, h39, hp, hV, hc, hm, hM⟩ := h
  refine ⟨hI, by rw [e]; exact tk_w hA rfl, hb, h38, h39, hp, fun i hi => ?_, hc, by rw [mR_up e h1 h2, hm], fun s => ?_⟩
  · rw [hV i hi]
    unfold vR
    rw [e, va_up_ne _ _ (by decide)]
  · unfold up
    split
    · exact hv
    · exact hM s
theorem v_pass (h : VJ I A b n V p m) (hp : p ≤ 990) (hf : f_pass x1 I A = some o) : VJ o.2.1 o.2.2 b n V (p + 1) m ∧ (o.1.toInt = 0 ∨ o.1.toInt = 1) ∧ (o.1.toInt = 1 ↔ V p = x1.toInt) := by
  have hf : f_pass_0 x1 I A = some o := hf
  have h38 := h.2.2.2.1
  have hb := h.2.2.1
  have hpp := h.2.2.2.2.2.1
  unfold f_pass_0 at hf
  obtain ⟨r1, h_r1, hf⟩ := m_clR hf (fun _ h => rro_sign h)
  have p_r1 := pc_sign h_r1
  dsimp only at p_r1
  rw [vj_sg h] at p_r1
  rcases m_ifE hf with ⟨c1, hf⟩ | ⟨c1, hf⟩
  · skip
    replace c1 := ti_eqP (a := r1) (b := x1) c1 rfl rfl
    unfold f_pass_13 at hf
    obtain ⟨v1, e_v1, hf⟩ := m_bndE hf
    have t_v1 : v1.toInt = (I 38).toInt + 1 := ti_add e_v1 rfl (show (1 : Int32).toInt = 1 from rfl) (by omega) (by omega)
    obtain ⟨I2, e_I2, hf⟩ := m_bndE hf
    obtain ⟨-, hf⟩ := m_chkE hf
    cases hf
    try dsimp only
    exact ⟨vj_at h e_I2 (by omega) (by omega), Or.inr rfl, ⟨fun _ => by omega, fun _ => rfl⟩⟩
  · skip
    replace c1 := ti_eqN (a := r1) (b := x1) c1 rfl rfl
    unfold f_pass_13 at hf
    obtain ⟨v1, e_v1, hf⟩ := m_bndE hf
    have t_v1 : v1.toInt = (I 38).toInt + 1 := ti_add e_v1 rfl (show (1 : Int32).toInt = 1 from rfl) (by omega) (by omega)
    obtain ⟨I2, e_I2, hf⟩ := m_bndE hf
    obtain ⟨-, hf⟩ := m_chkE hf
    cases hf
    try dsimp only
    exact ⟨vj_at h e_I2 (by omega) (by omega), Or.inl rfl, ⟨fun g => absurd g (by decide), fun g => by omega⟩⟩
theorem manV_lo : ∀ k : Nat, k < 26 → manV (97 + (k : Int)) = if manV (65 + (k : Int)) = 0 then 0 else manV (65 + (k : Int)) + 8 := by decide
theorem mo_0 {rec : Int32 → (Nat → Int32) → (Nat → Nat → Int32) → Option (Int32 × MS)} (hrec : ∀ v I A o, 65 ≤ v.toInt → v.toInt ≤ 90 → rec v I A = some o → o.1.toInt = manV v.toInt) (hx : 0 ≤ x0.toInt ∧ x0.toInt ≤ 127) (hf : f_manOf_0 rec x0 I A = some o) : o.1.toInt = manV x0.toInt := by
  have z0 : (0 : Int32).toInt = 0 := rfl
  have z1 : (1 : Int32).toInt = 1 := rfl
  have z2 : (2 : Int32).toInt = 2 := rfl
  have z3 : (3 : Int32).toInt = 3 := rfl
  have z4 : (4 : Int32).toInt = 4 := rfl
  have z5 : (5 : Int32).toInt = 5 := rfl
  have z6 : (6 : Int32).toInt = 6 := rfl
  have lo : ∀ v : Int, 97 ≤ x0.toInt → x0.toInt ≤ 122 → v = x0.toInt - 32 → manV x0.toInt = if manV v = 0 then 0 else manV v + 8 := fun v h1 h2 hv => by
    have := manV_lo (x0.toInt - 97).toNat (by omega)
    rw [Int.toNat_of_nonneg (by omega), show 97 + (x0.toInt - 97) = x0.toInt by omega, show 65 + (x0.toInt - 97) = v by omega] at this
    exact this
  unfold f_manOf_0 at hf
  rcases m_ifE hf with ⟨c1, hf⟩ | ⟨c1, hf⟩
  · skip
    replace c1 := ti_eqP (a := x0) (b := (66 : Int32)) c1 rfl (show (66 : Int32).toInt = 66 from rfl)
    cases hf
    try dsimp only
    rw [c1]; rfl
  · skip
    replace c1 := ti_eqN (a := x0) (b := (66 : Int32)) c1 rfl (show (66 : Int32).toInt = 66 from rfl)
    rcases m_ifE hf with ⟨c2, hf⟩ | ⟨c2, hf⟩
    · skip
      replace c2 := ti_eqP (a := x0) (b := (75 : Int32)) c2 rfl (show (75 : Int32).toInt = 75 from rfl)
      cases hf
      try dsimp only
      rw [c2]; rfl
    · skip
      replace c2 := ti_eqN (a := x0) (b := (75 : Int32)) c2 rfl (show (75 : Int32).toInt = 75 from rfl)
      rcases m_ifE hf with ⟨c3, hf⟩ | ⟨c3, hf⟩
      · skip
        replace c3 := ti_eqP (a := x0) (b := (78 : Int32)) c3 rfl (show (78 : Int32).toInt = 78 from rfl)
        cases hf
        try dsimp only
        rw [c3]; rfl
      · skip
        replace c3 := ti_eqN (a := x0) (b := (78 : Int32)) c3 rfl (show (78 : Int32).toInt = 78 from rfl)
        rcases m_ifE hf with ⟨c4, hf⟩ | ⟨c4, hf⟩
        · skip
          replace c4 := ti_eqP (a := x0) (b := (80 : Int32)) c4 rfl (show (80 : Int32).toInt = 80 from rfl)
          cases hf
          try dsimp only
          rw [c4]; rfl
        · skip
          replace c4 := ti_eqN (a := x0) (b := (80 : Int32)) c4 rfl (show (80 : Int32).toInt = 80 from rfl)
          rcases m_ifE hf with ⟨c5, hf⟩ | ⟨c5, hf⟩
          · skip
            replace c5 := ti_eqP (a := x0) (b := (81 : Int32)) c5 rfl (show (81 : Int32).toInt = 81 from rfl)
            cases hf
            try dsimp only
            rw [c5]; rfl
          · skip
            replace c5 := ti_eqN (a := x0) (b := (81 : Int32)) c5 rfl (show (81 : Int32).toInt = 81 from rfl)
            rcases m_ifE hf with ⟨c6, hf⟩ | ⟨c6, hf⟩
            · skip
              replace c6 := ti_eqP (a := x0) (b := (82 : Int32)) c6 rfl (show (82 : Int32).toInt = 82 from rfl)
              cases hf
              try dsimp only
              rw [c6]; rfl
            · skip
              replace c6 := ti_eqN (a := x0) (b := (82 : Int32)) c6 rfl (show (82 : Int32).toInt = 82 from rfl)
              rcases m_ifE hf with ⟨c7, hf⟩ | ⟨c7, hf⟩
              · skip
                replace c7 := ti_ltP (a := x0) (b := (97 : Int32)) c7 rfl (show (97 : Int32).toInt = 97 from rfl)
                unfold f_manOf_134 at hf
                unfold f_manOf_135 at hf
                cases hf
                try dsimp only
                unfold manV
                omega
              · skip
                replace c7 := ti_ltN (a := x0) (b := (97 : Int32)) c7 rfl (show (97 : Int32).toInt = 97 from rfl)
                rcases m_ifE hf with ⟨c8, hf⟩ | ⟨c8, hf⟩
                · skip
                  replace c8 := ti_ltP (a := (122 : Int32)) (b := x0) c8 (show (122 : Int32).toInt = 122 from rfl) rfl
                  unfold f_manOf_134 at hf
                  unfold f_manOf_135 at hf
                  cases hf
                  try dsimp only
                  unfold manV
                  omega
                · skip
                  replace c8 := ti_ltN (a := (122 : Int32)) (b := x0) c8 (show (122 : Int32).toInt = 122 from rfl) rfl
                  obtain ⟨v1, e_v1, hf⟩ := m_bndE hf
                  have t_v1 : v1.toInt = x0.toInt - 32 := ti_sub e_v1 rfl (show (32 : Int32).toInt = 32 from rfl) (by omega) (by omega)
                  obtain ⟨v2, e_v2, hf⟩ := m_bndE hf
                  have t_v2 : v2.toInt = v1.toInt := by rw [e_v2]; exact nar_ci rfl (by omega) (by omega)
                  obtain ⟨⟨r3, Ic3, Ac3⟩, h_r3, hf⟩ := m_clE hf
                  dsimp only at hf
                  have q3 := hrec _ _ _ _ (by omega) (by omega) h_r3
                  dsimp only at q3
                  have b3 := manV_b v2.toInt
                  have l3 := lo v2.toInt (by omega) (by omega) (by omega)
                  rcases m_ifE hf with ⟨c9, hf⟩ | ⟨c9, hf⟩
                  · skip
                    replace c9 := ti_leP (a := r3) (b := (0 : Int32)) c9 rfl (show (0 : Int32).toInt = 0 from rfl)
                    unfold f_manOf_134 at hf
                    unfold f_manOf_135 at hf
                    cases hf
                    try dsimp only
                    rw [l3, if_pos (by omega)]
                    rfl
                  · skip
                    replace c9 := ti_leN (a := r3) (b := (0 : Int32)) c9 rfl (show (0 : Int32).toInt = 0 from rfl)
                    obtain ⟨v4, e_v4, hf⟩ := m_bndE hf
                    have t_v4 : v4.toInt = x0.toInt - 32 := ti_sub e_v4 rfl (show (32 : Int32).toInt = 32 from rfl) (by omega) (by omega)
                    obtain ⟨v5, e_v5, hf⟩ := m_bndE hf
                    have t_v5 : v5.toInt = v4.toInt := by rw [e_v5]; exact nar_ci rfl (by omega) (by omega)
                    obtain ⟨⟨r6, Ic6, Ac6⟩, h_r6, hf⟩ := m_clE hf
                    dsimp only at hf
                    have q6 := hrec _ _ _ _ (by omega) (by omega) h_r6
                    dsimp only at q6
                    have e65 : v5.toInt = v2.toInt := by omega
                    rw [e65] at q6
                    obtain ⟨v7, e_v7, hf⟩ := m_bndE hf
                    have t_v7 : v7.toInt = r6.toInt + 8 := ti_add e_v7 rfl (show (8 : Int32).toInt = 8 from rfl) (by omega) (by omega)
                    unfold f_manOf_135 at hf
                    cases hf
                    try dsimp only
                    rw [l3, if_neg (by omega)]
                    omega
theorem v_manOf (hx : 0 ≤ x0.toInt ∧ x0.toInt ≤ 127) (hf : f_manOf x0 I A = some o) : o.1.toInt = manV x0.toInt := by
  have h0 : ∀ v I A o, 65 ≤ v.toInt → v.toInt ≤ 90 → fr_manOf 0 v I A = some o → o.1.toInt = manV v.toInt := fun v I A o _ _ h => by cases h
  have h1 : ∀ v I A o, 65 ≤ v.toInt → v.toInt ≤ 90 → fr_manOf 1 v I A = some o → o.1.toInt = manV v.toInt := fun v I A o a b h => mo_0 h0 (by omega) h
  have h2 : ∀ v I A o, 65 ≤ v.toInt → v.toInt ≤ 90 → fr_manOf 2 v I A = some o → o.1.toInt = manV v.toInt := fun v I A o a b h => mo_0 h1 (by omega) h
  exact mo_0 h2 hx hf
theorem rank_r {r : Int} (hx : x1.toInt = r) (hr : 0 ≤ r ∧ r ≤ 7) : ∀ (N : Nat) (x2 x3 : Int32) (I : Nat → Int32) (A : Nat → Nat → Int32) (p : Int) (m : Int → Int) (k : Nat), VJ I A b n V p m → (x3.toInt = 0 ∨ x3.toInt = 1) → (0 ≤ x2.toInt ∧ x2.toInt ≤ 16) → p + (8 - x2.toInt) ≤ 980 → p ≤ 980 → 9 ≤ (k : Int) + x2.toInt → 1 ≤ k → f_readRank_4 N x1 x2 x3 I A = some o → ((o.1.toInt = 1 ∧ ∃ q m2, rkV V (8 * r) k p x2.toInt x3.toInt m = some (q, m2) ∧ VJ o.2.1 o.2.2 b n V q m2 ∧ q ≤ p + (8 - x2.toInt)) ∨ (o.1.toInt = 0 ∧ rkV V (8 * r) k p x2.toInt x3.toInt m = none)) := by
  intro N
  induction N with
  | zero => intro x2 x3 I A p m k _ _ _ _ _ _ _ hf; cases hf
  | succ N ih =>
    intro x2 x3 I A p m k hJ h3 h2 hpb hpp hk hk1 hf
    have hf : f_readRank_4s (f_readRank_4 N) x1 x2 x3 I A = some o := hf
    obtain ⟨k2, rfl⟩ : ∃ k2, k = k2 + 1 := ⟨k - 1, by omega⟩
    have b0 := hJ.2.2.2.2.2.2.2.1 p
    have z0 : (0 : Int32).toInt = 0 := rfl
    have z1 : (1 : Int32).toInt = 1 := rfl
    have nxt : ∀ (A1 : Nat → Nat → Int32) (m1 : Int → Int) (w d : Int32), VJ I A1 b n V p m1 → x2.toInt < w.toInt → w.toInt ≤ 16 → x2.toInt < 8 → (d.toInt = 0 ∨ d.toInt = 1) → rkV V (8 * r) (k2 + 1) p x2.toInt x3.toInt m = rkV V (8 * r) k2 (p + 1) w.toInt d.toInt m1 → f_readRank_82 (f_readRank_4 N) x1 w d I A1 = some o → ((o.1.toInt = 1 ∧ ∃ q m2, rkV V (8 * r) (k2 + 1) p x2.toInt x3.toInt m = some (q, m2) ∧ VJ o.2.1 o.2.2 b n V q m2 ∧ q ≤ p + (8 - x2.toInt)) ∨ (o.1.toInt = 0 ∧ rkV V (8 * r) (k2 + 1) p x2.toInt x3.toInt m = none)) := by
      intro A1 m1 w d J1 hw1 hw2 hlt hd er hf
      have h38 := J1.2.2.2.1
      have hb := J1.2.2.1
      have hp0 := J1.2.2.2.2.2.1
      unfold f_readRank_82 at hf
      obtain ⟨v1, e1, hf⟩ := m_bndE hf
      obtain ⟨I2, e2, hf⟩ := m_bndE hf
      have t1 : v1.toInt = (I 38).toInt + 1 := ti_add e1 rfl (show (1 : Int32).toInt = 1 from rfl) (by omega) (by omega)
      have J2 : VJ I2 A1 b n V (p + 1) m1 := vj_at J1 e2 (by omega) (by omega)
      have g := ih w d I2 A1 (p + 1) m1 k2 J2 hd (by omega) (by omega) (by omega) (by omega) (by omega) hf
      rw [er]
      rcases g with ⟨a1, q, m2, a2, a3, a4⟩ | ⟨a1, a2⟩
      · exact Or.inl ⟨a1, q, m2, a2, a3, by omega⟩
      · exact Or.inr ⟨a1, a2⟩
    have man : ∀ w : Int32, w.toInt = manV (V p) → x2.toInt < 8 → (¬ (49 ≤ V p ∧ V p ≤ 56) ∨ x3.toInt = 1) → f_readRank_54 (f_readRank_4 N) x1 x2 w I A = some o → ((o.1.toInt = 1 ∧ ∃ q m2, rkV V (8 * r) (k2 + 1) p x2.toInt x3.toInt m = some (q, m2) ∧ VJ o.2.1 o.2.2 b n V q m2 ∧ q ≤ p + (8 - x2.toInt)) ∨ (o.1.toInt = 0 ∧ rkV V (8 * r) (k2 + 1) p x2.toInt x3.toInt m = none)) := by
      intro w hw hlt hc hf
      have mb := manV_b (V p)
      have md : 49 ≤ V p ∧ V p ≤ 56 → manV (V p) = 0 := fun h => by unfold manV; omega
      unfold f_readRank_54 at hf
      rcases m_ifE hf with ⟨c1, hf⟩ | ⟨c1, hf⟩
      · replace c1 := ti_leP (a := w) (b := (0 : Int32)) c1 rfl rfl
        obtain ⟨-, hf⟩ := m_chkE hf
        cases hf
        refine Or.inr ⟨rfl, ?_⟩
        by_cases hd : 49 ≤ V p ∧ V p ≤ 56
        · exact rk_dd hlt hd (by omega)
        · exact rk_no hlt hd (by omega)
      · replace c1 := ti_leN (a := w) (b := (0 : Int32)) c1 rfl rfl
        have nd : ¬ (49 ≤ V p ∧ V p ≤ 56) := fun h => by have := md h; omega
        obtain ⟨v1, e1, hf⟩ := m_bndE hf
        obtain ⟨v2, e2, hf⟩ := m_bndE hf
        obtain ⟨-, hf⟩ := m_chkE hf
        obtain ⟨A3, e3, hf⟩ := m_bndE hf
        obtain ⟨v4, e4, hf⟩ := m_bndE hf
        have t1 : v1.toInt = 8 * x1.toInt := ti_mul e1 (show (8 : Int32).toInt = 8 from rfl) rfl (by omega) (by omega)
        have t2 : v2.toInt = v1.toInt + x2.toInt := ti_add e2 rfl rfl (by omega) (by omega)
        have t4 : v4.toInt = x2.toInt + 1 := ti_add e4 rfl (show (1 : Int32).toInt = 1 from rfl) (by omega) (by omega)
        have J3 := vj_m hJ e3 (by omega) (by omega) (by omega)
        have e9 : v2.toInt = 8 * r + x2.toInt := by omega
        rw [e9, hw] at J3
        refine nxt A3 _ v4 0 J3 (by omega) (by omega) hlt (Or.inl rfl) ?_ hf
        rw [rk_man hlt nd (by omega), t4]
        rfl
    unfold f_readRank_4s at hf
    rcases m_ifE hf with ⟨c1, hf⟩ | ⟨c1, hf⟩
    · skip
      replace c1 := ti_leP (a := (8 : Int32)) (b := x2) c1 (show (8 : Int32).toInt = 8 from rfl) rfl
      rcases m_ifE hf with ⟨c2, hf⟩ | ⟨c2, hf⟩
      · skip
        replace c2 := ti_eqP (a := x2) (b := (8 : Int32)) c2 rfl (show (8 : Int32).toInt = 8 from rfl)
        unfold f_readRank_106 at hf
        obtain ⟨-, hf⟩ := m_chkE hf
        cases hf
        try dsimp only
        exact Or.inl ⟨rfl, p, m, rk_end (by omega), hJ, by omega⟩
      · skip
        replace c2 := ti_eqN (a := x2) (b := (8 : Int32)) c2 rfl (show (8 : Int32).toInt = 8 from rfl)
        unfold f_readRank_106 at hf
        obtain ⟨-, hf⟩ := m_chkE hf
        cases hf
        try dsimp only
        exact Or.inr ⟨rfl, rk_over (by omega)⟩
    · skip
      replace c1 := ti_leN (a := (8 : Int32)) (b := x2) c1 (show (8 : Int32).toInt = 8 from rfl) rfl
      obtain ⟨r1, h_r1, hf⟩ := m_clR hf (fun _ h => rro_sign h)
      have p_r1 := pc_sign h_r1
      dsimp only at p_r1
      rw [vj_sg hJ] at p_r1
      obtain ⟨r2, h_r2, hf⟩ := m_clR hf (fun _ h => rro_manOf h)
      have q2 := v_manOf (by omega) h_r2
      dsimp only at q2
      rw [p_r1] at q2
      rcases m_ifE hf with ⟨c3, hf⟩ | ⟨c3, hf⟩
      · skip
        replace c3 := ti_ltP (a := r1) (b := (49 : Int32)) c3 rfl (show (49 : Int32).toInt = 49 from rfl)
        exact man r2 q2 (by omega) (Or.inl (by omega)) hf
      · skip
        replace c3 := ti_ltN (a := r1) (b := (49 : Int32)) c3 rfl (show (49 : Int32).toInt = 49 from rfl)
        rcases m_ifE hf with ⟨c4, hf⟩ | ⟨c4, hf⟩
        · skip
          replace c4 := ti_ltP (a := (56 : Int32)) (b := r1) c4 (show (56 : Int32).toInt = 56 from rfl) rfl
          exact man r2 q2 (by omega) (Or.inl (by omega)) hf
        · skip
          replace c4 := ti_ltN (a := (56 : Int32)) (b := r1) c4 (show (56 : Int32).toInt = 56 from rfl) rfl
          rcases m_ifE hf with ⟨c5, hf⟩ | ⟨c5, hf⟩
          · skip
            replace c5 := ti_eqP (a := x3) (b := (0 : Int32)) c5 rfl (show (0 : Int32).toInt = 0 from rfl)
            obtain ⟨v3, e_v3, hf⟩ := m_bndE hf
            have t_v3 : v3.toInt = x2.toInt + r1.toInt := ti_add e_v3 rfl rfl (by omega) (by omega)
            obtain ⟨v4, e_v4, hf⟩ := m_bndE hf
            have t_v4 : v4.toInt = v3.toInt - 48 := ti_sub e_v4 rfl (show (48 : Int32).toInt = 48 from rfl) (by omega) (by omega)
            refine nxt A m v4 1 hJ (by omega) (by omega) (by omega) (Or.inr rfl) ?_ hf
            rw [rk_dg (by omega) (by omega) (by omega), show v4.toInt = x2.toInt + (V p - 48) by omega]
            rfl
          · skip
            replace c5 := ti_eqN (a := x3) (b := (0 : Int32)) c5 rfl (show (0 : Int32).toInt = 0 from rfl)
            exact man r2 q2 (by omega) (Or.inr (by omega)) hf
theorem v_rank {r : Int} (hx : x1.toInt = r) (hr : 0 ≤ r ∧ r ≤ 7) (hJ : VJ I A b n V p m) (hp : p ≤ 960) (hf : f_readRank x1 I A = some o) : ((o.1.toInt = 1 ∧ ∃ q m2, rkV V (8 * r) 9 p 0 0 m = some (q, m2) ∧ VJ o.2.1 o.2.2 b n V q m2 ∧ q ≤ p + 8) ∨ (o.1.toInt = 0 ∧ rkV V (8 * r) 9 p 0 0 m = none)) := by
  have z0 : (0 : Int32).toInt = 0 := rfl
  have g := rank_r hx hr mFuel 0 0 I A p m 9 hJ (Or.inl rfl) (by omega) (by omega) (by omega) (by omega) (by omega) hf
  rw [z0] at g
  exact g
/-- what the reference's number of a value is -/
theorem nr_c {x3 : Int32} (hp : 0 ≤ p ∧ p ≤ 900) (h3 : x3.toInt = V p) : ∀ (N : Nat) (x1 x2 : Int32) (I : Nat → Int32) (A : Nat → Nat → Int32) (k : Int), x2.toInt = k → (0 ≤ k ∧ k ≤ 4) → VJ I A b n V (p + k) m → (∀ j, 0 ≤ j → j < k → 48 ≤ V (p + j) ∧ V (p + j) ≤ 57) → (k ≤ 3 → x1.toInt = val3 V p k) → (0 ≤ x1.toInt ∧ x1.toInt ≤ 9999) → f_readNumber_9 N x1 x2 x3 I A = some o → (nd3 V p = 3 ∧ 48 ≤ V (p + 3) ∧ V (p + 3) ≤ 57 ∧ o.1.toInt = -1) ∨ (¬ (nd3 V p = 3 ∧ 48 ≤ V (p + 3) ∧ V (p + 3) ≤ 57) ∧ o.1.toInt = numC V p ∧ VJ o.2.1 o.2.2 b n V (p + nd3 V p) m) := by
  intro N
  induction N with
  | zero => intro x1 x2 I A k _ _ _ _ _ _ hf; cases hf
  | succ N ih =>
    intro x1 x2 I A k hk hk4 hJ hd h1 hb1 hf
    have hf : f_readNumber_9s (f_readNumber_9 N) x1 x2 x3 I A = some o := hf
    have b0 := hJ.2.2.2.2.2.2.2.1 (p + k)
    have h38 := hJ.2.2.2.1
    have hb := hJ.2.2.1
    have z1 : (-1 : Int32).toInt = -1 := rfl
    have stop : (k = 4 ∨ ¬ (48 ≤ V (p + k) ∧ V (p + k) ≤ 57)) → f_readNumber_61 x1 x2 x3 I A = some o → (nd3 V p = 3 ∧ 48 ≤ V (p + 3) ∧ V (p + 3) ≤ 57 ∧ o.1.toInt = -1) ∨ (¬ (nd3 V p = 3 ∧ 48 ≤ V (p + 3) ∧ V (p + 3) ≤ 57) ∧ o.1.toInt = numC V p ∧ VJ o.2.1 o.2.2 b n V (p + nd3 V p) m) := by
      intro hs hf
      by_cases k4 : k = 4
      · have d3 : nd3 V p = 3 := nd3_e (by decide) (fun j j0 j1 => hd j j0 (by omega)) (Or.inl rfl)
        have d4 := hd 3 (by decide) (by omega)
        refine Or.inl ⟨d3, d4.1, d4.2, ?_⟩
        unfold f_readNumber_61 at hf
        rcases m_ifE hf with ⟨c1, hf⟩ | ⟨c1, hf⟩
        · skip
          replace c1 := ti_eqP (a := x2) (b := (0 : Int32)) c1 rfl (show (0 : Int32).toInt = 0 from rfl)
          unfold f_readNumber_81 at hf
          unfold f_readNumber_86 at hf
          cases hf
          try dsimp only
          first
          | exact z1
          | omega
        · skip
          replace c1 := ti_eqN (a := x2) (b := (0 : Int32)) c1 rfl (show (0 : Int32).toInt = 0 from rfl)
          rcases m_ifE hf with ⟨c2, hf⟩ | ⟨c2, hf⟩
          · skip
            replace c2 := ti_ltP (a := (3 : Int32)) (b := x2) c2 (show (3 : Int32).toInt = 3 from rfl) rfl
            unfold f_readNumber_81 at hf
            unfold f_readNumber_86 at hf
            cases hf
            try dsimp only
            first
            | exact z1
            | omega
          · skip
            replace c2 := ti_ltN (a := (3 : Int32)) (b := x2) c2 (show (3 : Int32).toInt = 3 from rfl) rfl
            rcases m_ifE hf with ⟨c3, hf⟩ | ⟨c3, hf⟩
            · skip
              replace c3 := ti_leP (a := x2) (b := (1 : Int32)) c3 rfl (show (1 : Int32).toInt = 1 from rfl)
              unfold f_readNumber_85 at hf
              unfold f_readNumber_86 at hf
              cases hf
              try dsimp only
              first
              | exact z1
              | omega
            · skip
              replace c3 := ti_leN (a := x2) (b := (1 : Int32)) c3 rfl (show (1 : Int32).toInt = 1 from rfl)
              rcases m_ifE hf with ⟨c4, hf⟩ | ⟨c4, hf⟩
              · skip
                replace c4 := ti_eqP (a := x3) (b := (48 : Int32)) c4 rfl (show (48 : Int32).toInt = 48 from rfl)
                unfold f_readNumber_81 at hf
                unfold f_readNumber_86 at hf
                cases hf
                try dsimp only
                first
                | exact z1
                | omega
              · skip
                replace c4 := ti_eqN (a := x3) (b := (48 : Int32)) c4 rfl (show (48 : Int32).toInt = 48 from rfl)
                unfold f_readNumber_85 at hf
                unfold f_readNumber_86 at hf
                cases hf
                try dsimp only
                first
                | exact z1
                | omega
      · have d3 : nd3 V p = k := nd3_e (by omega) hd (Or.inr (by omega))
        have h1' := h1 (by omega)
        refine Or.inr ⟨fun h => ?_, ?_, ?_⟩
        · have e3 : k = 3 := by omega
          rw [e3] at hs
          omega
        · unfold numC
          rw [d3]
          unfold f_readNumber_61 at hf
          rcases m_ifE hf with ⟨c1, hf⟩ | ⟨c1, hf⟩
          · skip
            replace c1 := ti_eqP (a := x2) (b := (0 : Int32)) c1 rfl (show (0 : Int32).toInt = 0 from rfl)
            unfold f_readNumber_81 at hf
            unfold f_readNumber_86 at hf
            cases hf
            try dsimp only
            rw [if_pos (by omega)]; rfl
          · skip
            replace c1 := ti_eqN (a := x2) (b := (0 : Int32)) c1 rfl (show (0 : Int32).toInt = 0 from rfl)
            rcases m_ifE hf with ⟨c2, hf⟩ | ⟨c2, hf⟩
            · skip
              replace c2 := ti_ltP (a := (3 : Int32)) (b := x2) c2 (show (3 : Int32).toInt = 3 from rfl) rfl
              unfold f_readNumber_81 at hf
              unfold f_readNumber_86 at hf
              cases hf
              try dsimp only
              omega
            · skip
              replace c2 := ti_ltN (a := (3 : Int32)) (b := x2) c2 (show (3 : Int32).toInt = 3 from rfl) rfl
              rcases m_ifE hf with ⟨c3, hf⟩ | ⟨c3, hf⟩
              · skip
                replace c3 := ti_leP (a := x2) (b := (1 : Int32)) c3 rfl (show (1 : Int32).toInt = 1 from rfl)
                unfold f_readNumber_85 at hf
                unfold f_readNumber_86 at hf
                cases hf
                try dsimp only
                rw [if_neg (by omega)]; exact h1'
              · skip
                replace c3 := ti_leN (a := x2) (b := (1 : Int32)) c3 rfl (show (1 : Int32).toInt = 1 from rfl)
                rcases m_ifE hf with ⟨c4, hf⟩ | ⟨c4, hf⟩
                · skip
                  replace c4 := ti_eqP (a := x3) (b := (48 : Int32)) c4 rfl (show (48 : Int32).toInt = 48 from rfl)
                  unfold f_readNumber_81 at hf
                  unfold f_readNumber_86 at hf
                  cases hf
                  try dsimp only
                  rw [if_pos (by omega)]; rfl
                · skip
                  replace c4 := ti_eqN (a := x3) (b := (48 : Int32)) c4 rfl (show (48 : Int32).toInt = 48 from rfl)
                  unfold f_readNumber_85 at hf
                  unfold f_readNumber_86 at hf
                  cases hf
                  try dsimp only
                  rw [if_neg (by omega)]; exact h1'
        · rw [d3]
          unfold f_readNumber_61 at hf
          rcases m_ifE hf with ⟨c1, hf⟩ | ⟨c1, hf⟩
          · skip
            replace c1 := ti_eqP (a := x2) (b := (0 : Int32)) c1 rfl (show (0 : Int32).toInt = 0 from rfl)
            unfold f_readNumber_81 at hf
            unfold f_readNumber_86 at hf
            cases hf
            try dsimp only
            exact hJ
          · skip
            replace c1 := ti_eqN (a := x2) (b := (0 : Int32)) c1 rfl (show (0 : Int32).toInt = 0 from rfl)
            rcases m_ifE hf with ⟨c2, hf⟩ | ⟨c2, hf⟩
            · skip
              replace c2 := ti_ltP (a := (3 : Int32)) (b := x2) c2 (show (3 : Int32).toInt = 3 from rfl) rfl
              unfold f_readNumber_81 at hf
              unfold f_readNumber_86 at hf
              cases hf
              try dsimp only
              exact hJ
            · skip
              replace c2 := ti_ltN (a := (3 : Int32)) (b := x2) c2 (show (3 : Int32).toInt = 3 from rfl) rfl
              rcases m_ifE hf with ⟨c3, hf⟩ | ⟨c3, hf⟩
              · skip
                replace c3 := ti_leP (a := x2) (b := (1 : Int32)) c3 rfl (show (1 : Int32).toInt = 1 from rfl)
                unfold f_readNumber_85 at hf
                unfold f_readNumber_86 at hf
                cases hf
                try dsimp only
                exact hJ
              · skip
                replace c3 := ti_leN (a := x2) (b := (1 : Int32)) c3 rfl (show (1 : Int32).toInt = 1 from rfl)
                rcases m_ifE hf with ⟨c4, hf⟩ | ⟨c4, hf⟩
                · skip
                  replace c4 := ti_eqP (a := x3) (b := (48 : Int32)) c4 rfl (show (48 : Int32).toInt = 48 from rfl)
                  unfold f_readNumber_81 at hf
                  unfold f_readNumber_86 at hf
                  cases hf
                  try dsimp only
                  exact hJ
                · skip
                  replace c4 := ti_eqN (a := x3) (b := (48 : Int32)) c4 rfl (show (48 : Int32).toInt = 48 from rfl)
                  unfold f_readNumber_85 at hf
                  unfold f_readNumber_86 at hf
                  cases hf
                  try dsimp only
                  exact hJ
    have vb : k ≤ 3 → 0 ≤ x1.toInt ∧ x1.toInt ≤ 999 ∧ (k ≤ 2 → x1.toInt ≤ 99) := fun h => by
      rw [h1 h]
      exact val3_b ⟨hk4.1, h⟩ hd
    unfold f_readNumber_9s at hf
    obtain ⟨r1, h_r1, hf⟩ := m_clR hf (fun _ h => rro_sign h)
    have p_r1 := pc_sign h_r1
    dsimp only at p_r1
    rw [vj_sg hJ] at p_r1
    rcases m_ifE hf with ⟨c1, hf⟩ | ⟨c1, hf⟩
    · skip
      replace c1 := ti_ltP (a := r1) (b := (48 : Int32)) c1 rfl (show (48 : Int32).toInt = 48 from rfl)
      exact stop (Or.inr (by omega)) hf
    · skip
      replace c1 := ti_ltN (a := r1) (b := (48 : Int32)) c1 rfl (show (48 : Int32).toInt = 48 from rfl)
      obtain ⟨r2, h_r2, hf⟩ := m_clR hf (fun _ h => rro_sign h)
      have p_r2 := pc_sign h_r2
      dsimp only at p_r2
      rw [vj_sg hJ] at p_r2
      rcases m_ifE hf with ⟨c2, hf⟩ | ⟨c2, hf⟩
      · skip
        replace c2 := ti_ltP (a := (57 : Int32)) (b := r2) c2 (show (57 : Int32).toInt = 57 from rfl) rfl
        exact stop (Or.inr (by omega)) hf
      · skip
        replace c2 := ti_ltN (a := (57 : Int32)) (b := r2) c2 (show (57 : Int32).toInt = 57 from rfl) rfl
        rcases m_ifE hf with ⟨c3, hf⟩ | ⟨c3, hf⟩
        · skip
          replace c3 := ti_leP (a := (4 : Int32)) (b := x2) c3 (show (4 : Int32).toInt = 4 from rfl) rfl
          exact stop (Or.inl (by omega)) hf
        · skip
          replace c3 := ti_leN (a := (4 : Int32)) (b := x2) c3 (show (4 : Int32).toInt = 4 from rfl) rfl
          have vb3 := vb (by omega)
          obtain ⟨v3, e_v3, hf⟩ := m_bndE hf
          have t_v3 : v3.toInt = 10 * x1.toInt := ti_mul e_v3 (show (10 : Int32).toInt = 10 from rfl) rfl (by omega) (by omega)
          obtain ⟨r4, h_r4, hf⟩ := m_clR hf (fun _ h => rro_sign h)
          have p_r4 := pc_sign h_r4
          dsimp only at p_r4
          rw [vj_sg hJ] at p_r4
          obtain ⟨v5, e_v5, hf⟩ := m_bndE hf
          have t_v5 : v5.toInt = v3.toInt + r4.toInt := ti_add e_v5 rfl rfl (by omega) (by omega)
          obtain ⟨v6, e_v6, hf⟩ := m_bndE hf
          have t_v6 : v6.toInt = v5.toInt - 48 := ti_sub e_v6 rfl (show (48 : Int32).toInt = 48 from rfl) (by omega) (by omega)
          obtain ⟨v7, e_v7, hf⟩ := m_bndE hf
          have t_v7 : v7.toInt = x2.toInt + 1 := ti_add e_v7 rfl (show (1 : Int32).toInt = 1 from rfl) (by omega) (by omega)
          obtain ⟨v8, e_v8, hf⟩ := m_bndE hf
          have t_v8 : v8.toInt = (I 38).toInt + 1 := ti_add e_v8 rfl (show (1 : Int32).toInt = 1 from rfl) (by omega) (by omega)
          obtain ⟨I9, e_I9, hf⟩ := m_bndE hf
          have J9 : VJ I9 A b n V (p + (k + 1)) m := vj_at hJ e_I9 (by omega) (by omega)
          refine ih v6 v7 I9 A (k + 1) (by omega) (by omega) J9 (fun j j0 j1 => ?_) (fun h => ?_) (by omega) hf
          · by_cases e : j = k
            · rw [e]; omega
            · exact hd j j0 (by omega)
          · rw [val3_s (by omega), ← h1 (by omega)]
            omega
theorem v_number (hp : p ≤ 900) (hJ : VJ I A b n V p m) (hf : f_readNumber I A = some o) : (nd3 V p = 3 ∧ 48 ≤ V (p + 3) ∧ V (p + 3) ≤ 57 ∧ o.1.toInt = -1) ∨ (¬ (nd3 V p = 3 ∧ 48 ≤ V (p + 3) ∧ V (p + 3) ≤ 57) ∧ o.1.toInt = numC V p ∧ VJ o.2.1 o.2.2 b n V (p + nd3 V p) m) := by
  have hf : f_readNumber_0 I A = some o := hf
  have z0 : (0 : Int32).toInt = 0 := rfl
  unfold f_readNumber_0 at hf
  obtain ⟨r1, h_r1, hf⟩ := m_clR hf (fun _ h => rro_sign h)
  have p_r1 := pc_sign h_r1
  dsimp only at p_r1
  rw [vj_sg hJ] at p_r1
  exact nr_c ⟨hJ.2.2.2.2.2.1.1, hp⟩ p_r1 mFuel 0 0 I A 0 rfl (by decide) (by rw [Int.add_zero]; exact hJ) (fun j j0 j1 => by omega) (fun _ => rfl) (by decide) hf
theorem sh_1 : ∀ i : Nat, i < 4 → ((1 : Int32) <<< (nI i &&& 31)).toInt = 2 ^ i := by decide +kernel
theorem rr_c : ∀ (N : Nat) (x1 : Int32) (I : Nat → Int32) (i : Nat), x1.toInt = (i : Int) → i ≤ 4 → VJ I A b n V (rgN V p i).1 m → (I 26).toInt = (rgN V p i).2 → (0 ≤ p ∧ p ≤ 900) → f_readRights_23 N x1 I A = some o → (o.1.toInt = 0 ∨ o.1.toInt = 1) ∧ (o.1.toInt = 1 ↔ (rgN V p 4).2 ≠ 0) ∧ VJ o.2.1 o.2.2 b n V (rgN V p 4).1 m ∧ (o.2.1 26).toInt = (rgN V p 4).2 := by
  intro N
  induction N with
  | zero => intro x1 I i _ _ _ _ _ hf; cases hf
  | succ N ih =>
    intro x1 I i hx hi hJ h26 hp hf
    have hf : f_readRights_23s (f_readRights_23 N) x1 I A = some o := hf
    have z0 : (0 : Int32).toInt = 0 := rfl
    obtain ⟨b1, b2, b3, b4⟩ := rgN_b (V := V) (p := p) i hi
    have h38 := hJ.2.2.2.1
    have hb := hJ.2.2.1
    have es : rgN V p (i + 1) = rgS V i (rgN V p i) := rfl
    have b16 : i < 4 → (rgN V p i).2 < 16 ∧ (2 : Int) ^ i ≤ 16 ∧ (0 : Int) ≤ 2 ^ i := fun h => by
      have : i = 0 ∨ i = 1 ∨ i = 2 ∨ i = 3 := by omega
      rcases this with h | h | h | h <;> subst h <;> (have b5 := b4; simp at b5; refine ⟨by omega, by decide, by decide⟩)
    have nxt : ∀ I1, VJ I1 A b n V (rgN V p (i + 1)).1 m → (I1 26).toInt = (rgN V p (i + 1)).2 → i < 4 → f_readRights_88 (f_readRights_23 N) x1 I1 A = some o → (o.1.toInt = 0 ∨ o.1.toInt = 1) ∧ (o.1.toInt = 1 ↔ (rgN V p 4).2 ≠ 0) ∧ VJ o.2.1 o.2.2 b n V (rgN V p 4).1 m ∧ (o.2.1 26).toInt = (rgN V p 4).2 := by
      intro I1 J1 h1 hlt hf
      unfold f_readRights_88 at hf
      obtain ⟨v1, e1, hf⟩ := m_bndE hf
      have t1 : v1.toInt = x1.toInt + 1 := ti_add e1 rfl (show (1 : Int32).toInt = 1 from rfl) (by omega) (by omega)
      exact ih v1 I1 (i + 1) (by omega) (by omega) J1 h1 hp hf
    have mid : ∀ t0 t1 : Int32, t0.toInt = (strL 2).getD i 0 → t1.toInt = V (rgN V p i).1 → i < 4 → f_readRights_63 (f_readRights_23 N) x1 t0 t1 I A = some o → (o.1.toInt = 0 ∨ o.1.toInt = 1) ∧ (o.1.toInt = 1 ↔ (rgN V p 4).2 ≠ 0) ∧ VJ o.2.1 o.2.2 b n V (rgN V p 4).1 m ∧ (o.2.1 26).toInt = (rgN V p 4).2 := by
      intro t0 t1 ht0 ht1 hlt hf
      obtain ⟨c16, c17, c18⟩ := b16 hlt
      unfold f_readRights_63 at hf
      rcases m_ifE hf with ⟨c1, hf⟩ | ⟨c1, hf⟩
      · replace c1 := ti_eqP (a := t1) (b := t0) c1 rfl rfl
        have er : rgS V i (rgN V p i) = ((rgN V p i).1 + 1, (rgN V p i).2 + 2 ^ i) := if_pos (by omega)
        obtain ⟨v1, e1, hf⟩ := m_bndE hf
        obtain ⟨v2, e2, hf⟩ := m_bndE hf
        obtain ⟨I3, e3, hf⟩ := m_bndE hf
        obtain ⟨v4, e4, hf⟩ := m_bndE hf
        obtain ⟨I5, e5, hf⟩ := m_bndE hf
        have hxx : x1 = nI i := by
          apply Int32.toInt_inj.1
          rw [nI_toInt (by omega)]
          exact hx
        have t1' : v1.toInt = 2 ^ i := by rw [e1, hxx]; exact sh_1 i hlt
        have t2 : v2.toInt = (I 26).toInt + v1.toInt := ti_add e2 rfl rfl (by omega) (by omega)
        have J3 : VJ I3 A b n V (rgN V p i).1 m := vj_w hJ e3 (tf_b v2).1 (tf_b v2).2 (by decide) (by decide)
        have h338 := J3.2.2.2.1
        have t4 : v4.toInt = (I3 38).toInt + 1 := ti_add e4 rfl (show (1 : Int32).toInt = 1 from rfl) (by omega) (by omega)
        have J5 : VJ I5 A b n V ((rgN V p i).1 + 1) m := vj_at J3 e5 (by omega) (by omega)
        refine nxt I5 ?_ ?_ hlt hf
        · rw [es, er]; exact J5
        · rw [es, er, e5, upd_ne (by decide), e3, upd_self, t2, h26, t1']
      · replace c1 := ti_eqN (a := t1) (b := t0) c1 rfl rfl
        have er : rgS V i (rgN V p i) = rgN V p i := if_neg (by omega)
        refine nxt I ?_ ?_ hlt hf
        · rw [es, er]; exact hJ
        · rw [es, er]; exact h26
    unfold f_readRights_23s at hf
    rcases m_ifE hf with ⟨c1, hf⟩ | ⟨c1, hf⟩
    · skip
      replace c1 := ti_leP (a := (4 : Int32)) (b := x1) c1 (show (4 : Int32).toInt = 4 from rfl) rfl
      have e4 : i = 4 := by omega
      subst e4
      rcases m_ifE hf with ⟨c2, hf⟩ | ⟨c2, hf⟩
      · skip
        replace c2 := ti_leP (a := (I 26)) (b := (0 : Int32)) c2 rfl (show (0 : Int32).toInt = 0 from rfl)
        unfold f_readRights_106 at hf
        obtain ⟨-, hf⟩ := m_chkE hf
        cases hf
        try dsimp only
        exact ⟨Or.inl rfl, ⟨fun h => absurd h (by decide), fun h => by omega⟩, hJ, h26⟩
      · skip
        replace c2 := ti_leN (a := (I 26)) (b := (0 : Int32)) c2 rfl (show (0 : Int32).toInt = 0 from rfl)
        unfold f_readRights_106 at hf
        obtain ⟨-, hf⟩ := m_chkE hf
        cases hf
        try dsimp only
        exact ⟨Or.inr rfl, ⟨fun _ => by omega, fun _ => rfl⟩, hJ, h26⟩
    · skip
      replace c1 := ti_leN (a := (4 : Int32)) (b := x1) c1 (show (4 : Int32).toInt = 4 from rfl) rfl
      obtain ⟨r1, h_r1, hf⟩ := m_clR hf (fun _ h => rro_sign h)
      have p_r1 := pc_sign h_r1
      dsimp only at p_r1
      rw [vj_sg hJ] at p_r1
      rcases m_ifE hf with ⟨c3, hf⟩ | ⟨c3, hf⟩
      · skip
        replace c3 := ti_eqP (a := x1) (b := (0 : Int32)) c3 rfl (show (0 : Int32).toInt = 0 from rfl)
        have e : i = 0 := by omega
        exact mid 75 r1 (by rw [e]; rfl) p_r1 (by omega) hf
      · skip
        replace c3 := ti_eqN (a := x1) (b := (0 : Int32)) c3 rfl (show (0 : Int32).toInt = 0 from rfl)
        rcases m_ifE hf with ⟨c4, hf⟩ | ⟨c4, hf⟩
        · skip
          replace c4 := ti_eqP (a := x1) (b := (1 : Int32)) c4 rfl (show (1 : Int32).toInt = 1 from rfl)
          have e : i = 1 := by omega
          exact mid 81 r1 (by rw [e]; rfl) p_r1 (by omega) hf
        · skip
          replace c4 := ti_eqN (a := x1) (b := (1 : Int32)) c4 rfl (show (1 : Int32).toInt = 1 from rfl)
          rcases m_ifE hf with ⟨c5, hf⟩ | ⟨c5, hf⟩
          · skip
            replace c5 := ti_eqP (a := x1) (b := (2 : Int32)) c5 rfl (show (2 : Int32).toInt = 2 from rfl)
            have e : i = 2 := by omega
            exact mid 107 r1 (by rw [e]; rfl) p_r1 (by omega) hf
          · skip
            replace c5 := ti_eqN (a := x1) (b := (2 : Int32)) c5 rfl (show (2 : Int32).toInt = 2 from rfl)
            have e : i = 3 := by omega
            exact mid 113 r1 (by rw [e]; rfl) p_r1 (by omega) hf
theorem v_rights (hJ : VJ I A b n V p m) (hp : p ≤ 900) (hf : f_readRights I A = some o) : (o.1.toInt = 0 ∨ o.1.toInt = 1) ∧ (o.1.toInt = 1 ↔ V p = 45 ∨ (rgV V p).2 ≠ 0) ∧ VJ o.2.1 o.2.2 b n V (rgV V p).1 m ∧ (o.2.1 26).toInt = (rgV V p).2 := by
  have hf : f_readRights_0 I A = some o := hf
  have z0 : (0 : Int32).toInt = 0 := rfl
  unfold f_readRights_0 at hf
  obtain ⟨I1, e_I1, hf⟩ := m_bndE hf
  have J1 : VJ I1 A b n V p m := vj_w hJ e_I1 (tf_b _).1 (tf_b _).2 (by decide) (by decide)
  have h1 : (I1 26).toInt = 0 := by rw [e_I1, upd_self]; rfl
  obtain ⟨r2, h_r2, hf⟩ := m_clR hf (fun _ h => rro_sign h)
  have p_r2 := pc_sign h_r2
  dsimp only at p_r2
  rw [vj_sg J1] at p_r2
  rcases m_ifE hf with ⟨c1, hf⟩ | ⟨c1, hf⟩
  · skip
    replace c1 := ti_eqP (a := r2) (b := (45 : Int32)) c1 rfl (show (45 : Int32).toInt = 45 from rfl)
    obtain ⟨⟨r3, Ic3, Ac3⟩, h_r3, hf⟩ := m_clE hf
    dsimp only at hf
    obtain ⟨J3, b3, g3⟩ := v_pass J1 (by omega) h_r3
    dsimp only at J3 b3 g3
    have F3 := (fw_pass h_r3).1 26 (by decide)
    dsimp only at F3
    have e9 : rgV V p = (p + 1, 0) := if_pos (by omega)
    obtain ⟨-, hf⟩ := m_chkE hf
    cases hf
    try dsimp only
    rw [e9]
    exact ⟨b3, ⟨fun _ => Or.inl (by omega), fun _ => g3.2 (by have z45 : (45 : Int32).toInt = 45 := rfl; omega)⟩, J3, by rw [F3]; exact h1⟩
  · skip
    replace c1 := ti_eqN (a := r2) (b := (45 : Int32)) c1 rfl (show (45 : Int32).toInt = 45 from rfl)
    have e9 : rgV V p = rgN V p 4 := if_neg (by omega)
    obtain ⟨a, c, d, e⟩ := rr_c (p := p) mFuel 0 I1 0 rfl (by decide) J1 h1 ⟨hJ.2.2.2.2.2.1.1, hp⟩ hf
    rw [e9]
    exact ⟨a, ⟨fun h => Or.inr (c.1 h), fun h => c.2 (h.resolve_left (by omega))⟩, d, e⟩
theorem v_passed (hJ : VJ I A b n V p m) (hp : p ≤ 900) (hf : f_readPassed I A = some o) : (o.1.toInt = 0 ∨ o.1.toInt = 1) ∧ (o.1.toInt = 1 ↔ V p = 45 ∨ (psV V p).2 ≠ -1) ∧ VJ o.2.1 o.2.2 b n V (psV V p).1 m ∧ (o.2.1 27).toInt = (psV V p).2 := by
  have hf : f_readPassed_0 I A = some o := hf
  have z1 : (-1 : Int32).toInt = -1 := rfl
  have z0 : (0 : Int32).toInt = 0 := rfl
  have hp0 := hJ.2.2.2.2.2.1
  have hb := hJ.2.2.1
  have fin : ∀ (t0 : Int32) I1, V p ≠ 45 → VJ I1 A b n V (p + 2) m → t0.toInt = sqO (V p) (V (p + 1)) → f_readPassed_88 t0 I1 A = some o → (o.1.toInt = 0 ∨ o.1.toInt = 1) ∧ (o.1.toInt = 1 ↔ V p = 45 ∨ (psV V p).2 ≠ -1) ∧ VJ o.2.1 o.2.2 b n V (psV V p).1 m ∧ (o.2.1 27).toInt = (psV V p).2 := by
    intro t0 I1 hn J1 ht hf
    have e9 : psV V p = (p + 2, sqO (V p) (V (p + 1))) := if_neg hn
    have sb : -1 ≤ sqO (V p) (V (p + 1)) := by unfold sqO; split <;> omega
    rw [e9]
    unfold f_readPassed_88 at hf
    obtain ⟨I2, e2, hf⟩ := m_bndE hf
    have J2 : VJ I2 A b n V (p + 2) m := vj_w J1 e2 (tf_b _).1 (tf_b _).2 (by decide) (by decide)
    have h2 : I2 27 = t0 := by rw [e2, upd_self]
    rw [h2] at hf
    unfold f_readPassed_103 at hf
    rcases m_ifE hf with ⟨c1, hf⟩ | ⟨c1, hf⟩
    · replace c1 := ti_ltP (a := t0) (b := (0 : Int32)) c1 rfl rfl
      obtain ⟨-, hf⟩ := m_chkE hf
      cases hf
      exact ⟨Or.inl rfl, ⟨fun h => absurd (show (0 : Int32).toInt = 1 from h) (by decide), fun h => by rcases h with h | h; exact absurd h hn; exact absurd (show sqO (V p) (V (p + 1)) = -1 by omega) h⟩, J2, by show (I2 27).toInt = sqO (V p) (V (p + 1)); rw [h2]; exact ht⟩
    · replace c1 := ti_ltN (a := t0) (b := (0 : Int32)) c1 rfl rfl
      obtain ⟨-, hf⟩ := m_chkE hf
      cases hf
      exact ⟨Or.inr rfl, ⟨fun _ => Or.inr (show sqO (V p) (V (p + 1)) ≠ -1 by omega), fun _ => rfl⟩, J2, by show (I2 27).toInt = sqO (V p) (V (p + 1)); rw [h2]; exact ht⟩
  unfold f_readPassed_0 at hf
  obtain ⟨I1, e_I1, hf⟩ := m_bndE hf
  have J1 : VJ I1 A b n V p m := vj_w hJ e_I1 (tf_b _).1 (tf_b _).2 (by decide) (by decide)
  have h1 : (I1 27).toInt = -1 := by rw [e_I1, upd_self]; rfl
  have h38 := J1.2.2.2.1
  have b0 := J1.2.2.2.2.2.2.2.1 p
  have b1 := J1.2.2.2.2.2.2.2.1 (p + 1)
  obtain ⟨r2, h_r2, hf⟩ := m_clR hf (fun _ h => rro_sign h)
  have p_r2 := pc_sign h_r2
  dsimp only at p_r2
  rw [vj_sg J1] at p_r2
  rcases m_ifE hf with ⟨c1, hf⟩ | ⟨c1, hf⟩
  · skip
    replace c1 := ti_eqP (a := r2) (b := (45 : Int32)) c1 rfl (show (45 : Int32).toInt = 45 from rfl)
    obtain ⟨⟨r13, Ic13, Ac13⟩, h_r13, hf⟩ := m_clE hf
    dsimp only at hf
    obtain ⟨J3, b3, g3⟩ := v_pass J1 (by omega) h_r13
    dsimp only at J3 b3 g3
    have F3 := (fw_pass h_r13).1 27 (by decide)
    dsimp only at F3
    have e9 : psV V p = (p + 1, -1) := if_pos (by omega)
    obtain ⟨-, hf⟩ := m_chkE hf
    cases hf
    try dsimp only
    rw [e9]
    exact ⟨b3, ⟨fun _ => Or.inl (by omega), fun _ => g3.2 (by have z45 : (45 : Int32).toInt = 45 := rfl; omega)⟩, J3, by rw [F3]; exact h1⟩
  · skip
    replace c1 := ti_eqN (a := r2) (b := (45 : Int32)) c1 rfl (show (45 : Int32).toInt = 45 from rfl)
    obtain ⟨r3, h_r3, hf⟩ := m_clR hf (fun _ h => rro_sign h)
    have p_r3 := pc_sign h_r3
    dsimp only at p_r3
    rw [vj_sg J1] at p_r3
    obtain ⟨v4, e_v4, hf⟩ := m_bndE hf
    have t_v4 : v4.toInt = r3.toInt - 97 := ti_sub e_v4 rfl (show (97 : Int32).toInt = 97 from rfl) (by omega) (by omega)
    obtain ⟨v5, e_v5, hf⟩ := m_bndE hf
    have t_v5 : v5.toInt = (I1 38).toInt + 1 := ti_add e_v5 rfl (show (1 : Int32).toInt = 1 from rfl) (by omega) (by omega)
    obtain ⟨I6, e_I6, hf⟩ := m_bndE hf
    have J6 : VJ I6 A b n V (p + 1) m := vj_at J1 e_I6 (by omega) (by omega)
    have h638 := J6.2.2.2.1
    obtain ⟨r7, h_r7, hf⟩ := m_clR hf (fun _ h => rro_sign h)
    have p_r7 := pc_sign h_r7
    dsimp only at p_r7
    rw [vj_sg J6] at p_r7
    obtain ⟨v8, e_v8, hf⟩ := m_bndE hf
    have t_v8 : v8.toInt = r7.toInt - 49 := ti_sub e_v8 rfl (show (49 : Int32).toInt = 49 from rfl) (by omega) (by omega)
    obtain ⟨v9, e_v9, hf⟩ := m_bndE hf
    have t_v9 : v9.toInt = (I6 38).toInt + 1 := ti_add e_v9 rfl (show (1 : Int32).toInt = 1 from rfl) (by omega) (by omega)
    obtain ⟨I10, e_I10, hf⟩ := m_bndE hf
    have J10 : VJ I10 A b n V (p + 2) m := vj_at J6 e_I10 (by omega) (by omega)
    have n45 : V p ≠ 45 := by omega
    rcases m_ifE hf with ⟨c2, hf⟩ | ⟨c2, hf⟩
    · skip
      replace c2 := ti_ltP (a := v4) (b := (0 : Int32)) c2 rfl (show (0 : Int32).toInt = 0 from rfl)
      exact fin (-1) I10 n45 J10 (by unfold sqO; rw [if_neg (by omega)]; rfl) hf
    · skip
      replace c2 := ti_ltN (a := v4) (b := (0 : Int32)) c2 rfl (show (0 : Int32).toInt = 0 from rfl)
      rcases m_ifE hf with ⟨c3, hf⟩ | ⟨c3, hf⟩
      · skip
        replace c3 := ti_leP (a := (8 : Int32)) (b := v4) c3 (show (8 : Int32).toInt = 8 from rfl) rfl
        exact fin (-1) I10 n45 J10 (by unfold sqO; rw [if_neg (by omega)]; rfl) hf
      · skip
        replace c3 := ti_leN (a := (8 : Int32)) (b := v4) c3 (show (8 : Int32).toInt = 8 from rfl) rfl
        rcases m_ifE hf with ⟨c4, hf⟩ | ⟨c4, hf⟩
        · skip
          replace c4 := ti_ltP (a := v8) (b := (0 : Int32)) c4 rfl (show (0 : Int32).toInt = 0 from rfl)
          exact fin (-1) I10 n45 J10 (by unfold sqO; rw [if_neg (by omega)]; rfl) hf
        · skip
          replace c4 := ti_ltN (a := v8) (b := (0 : Int32)) c4 rfl (show (0 : Int32).toInt = 0 from rfl)
          rcases m_ifE hf with ⟨c5, hf⟩ | ⟨c5, hf⟩
          · skip
            replace c5 := ti_leP (a := (8 : Int32)) (b := v8) c5 (show (8 : Int32).toInt = 8 from rfl) rfl
            exact fin (-1) I10 n45 J10 (by unfold sqO; rw [if_neg (by omega)]; rfl) hf
          · skip
            replace c5 := ti_leN (a := (8 : Int32)) (b := v8) c5 (show (8 : Int32).toInt = 8 from rfl) rfl
            obtain ⟨v11, e_v11, hf⟩ := m_bndE hf
            have t_v11 : v11.toInt = 8 * v8.toInt := ti_mul e_v11 (show (8 : Int32).toInt = 8 from rfl) rfl (by omega) (by omega)
            obtain ⟨v12, e_v12, hf⟩ := m_bndE hf
            have t_v12 : v12.toInt = v11.toInt + v4.toInt := ti_add e_v12 rfl rfl (by omega) (by omega)
            exact fin v12 I10 n45 J10 (by unfold sqO; rw [if_pos (by omega)]; omega) hf
end VJS
