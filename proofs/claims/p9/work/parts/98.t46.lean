/-- the result that stands at p -/
def rsV (ch : Int → Int) (p : Int) : Int := if ch p = 42 then 0 else if ch p = 49 ∧ ch (p + 1) = 45 ∧ ch (p + 2) = 48 then 1 else if ch p = 48 ∧ ch (p + 1) = 45 ∧ ch (p + 2) = 49 then 2 else if (ch p = 49 ∧ ch (p + 1) = 47 ∧ ch (p + 2) = 50) ∧ ch (p + 3) = 45 ∧ ch (p + 4) = 49 ∧ ch (p + 5) = 47 ∧ ch (p + 6) = 50 then 3 else -1
section RSH
variable {I : Nat → Int32} {A : Nat → Nat → Int32} {ch : Int → Int} {N p : Int} {o : Int32 × MS} {x1 x2 x3 : Int32}
theorem v_goesOn (hc : txR I A = ch) (hn : (I 1).toInt = N) (hN : N ≤ 2000) (h37 : (I 37).toInt = p) (hp : 0 ≤ p ∧ p ≤ 2010) (h1 : x1.toInt ≠ 0) (h2 : x2.toInt ≠ 0) (h3 : x3.toInt ≠ 0) (hf : f_goesOnWith x1 x2 x3 I A = some o) : (o.1.toInt = 0 ∨ o.1.toInt = 1) ∧ (o.1.toInt = 1 ↔ ch p = x1.toInt ∧ ch (p + 1) = x2.toInt ∧ ch (p + 2) = x3.toInt) := by
  have hf : f_goesOnWith_0 x1 x2 x3 I A = some o := hf
  have out : ∀ i, N ≤ i → ch i = 0 := fun i hi => by rw [← hc]; exact tx_out (by omega)
  unfold f_goesOnWith_0 at hf
  obtain ⟨v1, e_v1, hf⟩ := m_bndE hf
  have t_v1 : v1.toInt = (I 37).toInt + 2 := ti_add e_v1 rfl (show (2 : Int32).toInt = 2 from rfl) (by omega) (by omega)
  rcases m_ifE hf with ⟨c1, hf⟩ | ⟨c1, hf⟩
  · skip
    replace c1 := ti_leP (a := (I 1)) (b := v1) c1 rfl rfl
    unfold f_goesOnWith_60 at hf
    unfold f_goesOnWith_61 at hf
    obtain ⟨-, hf⟩ := m_chkE hf
    cases hf
    try dsimp only
    refine ⟨Or.inl rfl, fun e => absurd e (by decide), fun e => ?_⟩
    have := out (p + 2) (by omega)
    omega
  · skip
    replace c1 := ti_leN (a := (I 1)) (b := v1) c1 rfl rfl
    obtain ⟨-, hf⟩ := m_chkE hf
    obtain ⟨v2, e_v2, hf⟩ := m_bndE hf
    have q2 := tx_at (I := I) (x := I 37) e_v2 (by omega) (by omega)
    rw [hc, h37] at q2
    rcases m_ifE hf with ⟨c2, hf⟩ | ⟨c2, hf⟩
    · skip
      replace c2 := ti_eqP (a := v2) (b := x1) c2 rfl rfl
      obtain ⟨v3, e_v3, hf⟩ := m_bndE hf
      have t_v3 : v3.toInt = (I 37).toInt + 1 := ti_add e_v3 rfl (show (1 : Int32).toInt = 1 from rfl) (by omega) (by omega)
      obtain ⟨-, hf⟩ := m_chkE hf
      obtain ⟨v4, e_v4, hf⟩ := m_bndE hf
      have q4 := tx_at (I := I) e_v4 (by omega) (by omega)
      rw [hc, show v3.toInt = p + 1 by omega] at q4
      rcases m_ifE hf with ⟨c3, hf⟩ | ⟨c3, hf⟩
      · skip
        replace c3 := ti_eqP (a := v4) (b := x2) c3 rfl rfl
        obtain ⟨v5, e_v5, hf⟩ := m_bndE hf
        have t_v5 : v5.toInt = (I 37).toInt + 2 := ti_add e_v5 rfl (show (2 : Int32).toInt = 2 from rfl) (by omega) (by omega)
        obtain ⟨-, hf⟩ := m_chkE hf
        obtain ⟨v6, e_v6, hf⟩ := m_bndE hf
        have q6 := tx_at (I := I) e_v6 (by omega) (by omega)
        rw [hc, show v5.toInt = p + 2 by omega] at q6
        rcases m_ifE hf with ⟨c4, hf⟩ | ⟨c4, hf⟩
        · skip
          replace c4 := ti_eqP (a := v6) (b := x3) c4 rfl rfl
          unfold f_goesOnWith_61 at hf
          obtain ⟨-, hf⟩ := m_chkE hf
          cases hf
          try dsimp only
          exact ⟨Or.inr rfl, fun _ => ⟨by omega, by omega, by omega⟩, fun _ => rfl⟩
        · skip
          replace c4 := ti_eqN (a := v6) (b := x3) c4 rfl rfl
          unfold f_goesOnWith_60 at hf
          unfold f_goesOnWith_61 at hf
          obtain ⟨-, hf⟩ := m_chkE hf
          cases hf
          try dsimp only
          exact ⟨Or.inl rfl, fun e => absurd e (by decide), fun e => by omega⟩
      · skip
        replace c3 := ti_eqN (a := v4) (b := x2) c3 rfl rfl
        unfold f_goesOnWith_60 at hf
        unfold f_goesOnWith_61 at hf
        obtain ⟨-, hf⟩ := m_chkE hf
        cases hf
        try dsimp only
        exact ⟨Or.inl rfl, fun e => absurd e (by decide), fun e => by omega⟩
    · skip
      replace c2 := ti_eqN (a := v2) (b := x1) c2 rfl rfl
      unfold f_goesOnWith_60 at hf
      unfold f_goesOnWith_61 at hf
      obtain ⟨-, hf⟩ := m_chkE hf
      cases hf
      try dsimp only
      exact ⟨Or.inl rfl, fun e => absurd e (by decide), fun e => by omega⟩
theorem v_resultHere (hc : txR I A = ch) (hn : (I 1).toInt = N) (hN : N ≤ 2000) (h37 : (I 37).toInt = p) (hp : 0 ≤ p ∧ p ≤ 2010) (hf : f_resultHere I A = some o) : o.2 = (I, A) ∧ o.1.toInt = rsV ch p := by
  have hro := rro_resultHere hf
  refine ⟨hro, ?_⟩
  have hf : f_resultHere_0 I A = some o := hf
  have out : ∀ i, N ≤ i → ch i = 0 := fun i hi => by rw [← hc]; exact tx_out (by omega)
  have z45 : (45 : Int32).toInt = 45 := rfl
  have z47 : (47 : Int32).toInt = 47 := rfl
  have z48 : (48 : Int32).toInt = 48 := rfl
  have z49 : (49 : Int32).toInt = 49 := rfl
  have z50 : (50 : Int32).toInt = 50 := rfl
  unfold rsV
  unfold f_resultHere_0 at hf
  obtain ⟨r1, h_r1, hf⟩ := m_clR hf (fun _ h => rro_look h)
  have p_r1 := pc_look h_r1
  dsimp only at p_r1
  have q1 := p_r1 (by omega)
  rw [hc, h37] at q1
  clear p_r1
  rcases m_ifE hf with ⟨c1, hf⟩ | ⟨c1, hf⟩
  · skip
    replace c1 := ti_eqP (a := r1) (b := (42 : Int32)) c1 rfl (show (42 : Int32).toInt = 42 from rfl)
    cases hf
    try dsimp only
    rw [if_pos (by omega)]; rfl
  · skip
    replace c1 := ti_eqN (a := r1) (b := (42 : Int32)) c1 rfl (show (42 : Int32).toInt = 42 from rfl)
    obtain ⟨r2, h_r2, hf⟩ := m_clR hf (fun _ h => rro_goesOnWith h)
    obtain ⟨b2, q2⟩ := v_goesOn hc hn hN h37 hp (by decide) (by decide) (by decide) h_r2
    dsimp only at b2 q2
    rw [z49, z45, z48] at q2
    rw [if_neg (by omega)]
    rcases m_ifE hf with ⟨c2, hf⟩ | ⟨c2, hf⟩
    · skip
      replace c2 := ti_eqP (a := r2) (b := (0 : Int32)) c2 rfl (show (0 : Int32).toInt = 0 from rfl)
      rw [if_neg (fun e => by have := q2.2 e; omega)]
      obtain ⟨r3, h_r3, hf⟩ := m_clR hf (fun _ h => rro_goesOnWith h)
      obtain ⟨b3, q3⟩ := v_goesOn hc hn hN h37 hp (by decide) (by decide) (by decide) h_r3
      dsimp only at b3 q3
      rw [z49, z45, z48] at q3
      rcases m_ifE hf with ⟨c3, hf⟩ | ⟨c3, hf⟩
      · skip
        replace c3 := ti_eqP (a := r3) (b := (0 : Int32)) c3 rfl (show (0 : Int32).toInt = 0 from rfl)
        rw [if_neg (fun e => by have := q3.2 e; omega)]
        obtain ⟨r4, h_r4, hf⟩ := m_clR hf (fun _ h => rro_goesOnWith h)
        obtain ⟨b4, q4⟩ := v_goesOn hc hn hN h37 hp (by decide) (by decide) (by decide) h_r4
        dsimp only at b4 q4
        rw [z49, z47, z50] at q4
        rcases m_ifE hf with ⟨c4, hf⟩ | ⟨c4, hf⟩
        · skip
          replace c4 := ti_eqP (a := r4) (b := (0 : Int32)) c4 rfl (show (0 : Int32).toInt = 0 from rfl)
          unfold f_resultHere_137 f_resultHere_138 f_resultHere_148 at hf
          rcases m_ifE hf with ⟨c9, hf⟩ | ⟨c9, hf⟩
          · cases hf
            rw [if_neg (fun e => by have := q4.2 e.1; omega)]; rfl
          · exact absurd rfl c9
        · skip
          replace c4 := ti_eqN (a := r4) (b := (0 : Int32)) c4 rfl (show (0 : Int32).toInt = 0 from rfl)
          obtain ⟨v5, e_v5, hf⟩ := m_bndE hf
          have t_v5 : v5.toInt = (I 37).toInt + 6 := ti_add e_v5 rfl (show (6 : Int32).toInt = 6 from rfl) (by omega) (by omega)
          rcases m_ifE hf with ⟨c5, hf⟩ | ⟨c5, hf⟩
          · skip
            replace c5 := ti_leP (a := (I 1)) (b := v5) c5 rfl rfl
            unfold f_resultHere_137 f_resultHere_138 f_resultHere_148 at hf
            have := out (p + 6) (by omega)
            rcases m_ifE hf with ⟨c9, hf⟩ | ⟨c9, hf⟩
            · cases hf
              rw [if_neg (by omega)]; rfl
            · exact absurd rfl c9
          · skip
            replace c5 := ti_leN (a := (I 1)) (b := v5) c5 rfl rfl
            obtain ⟨v6, e_v6, hf⟩ := m_bndE hf
            have t_v6 : v6.toInt = (I 37).toInt + 3 := ti_add e_v6 rfl (show (3 : Int32).toInt = 3 from rfl) (by omega) (by omega)
            obtain ⟨-, hf⟩ := m_chkE hf
            obtain ⟨v7, e_v7, hf⟩ := m_bndE hf
            have q7 := tx_at (I := I) e_v7 (by omega) (by omega)
            rw [hc, show v6.toInt = p + 3 by omega] at q7
            rcases m_ifE hf with ⟨c6, hf⟩ | ⟨c6, hf⟩
            · skip
              replace c6 := ti_eqP (a := v7) (b := (45 : Int32)) c6 rfl (show (45 : Int32).toInt = 45 from rfl)
              obtain ⟨v8, e_v8, hf⟩ := m_bndE hf
              have t_v8 : v8.toInt = (I 37).toInt + 4 := ti_add e_v8 rfl (show (4 : Int32).toInt = 4 from rfl) (by omega) (by omega)
              obtain ⟨-, hf⟩ := m_chkE hf
              obtain ⟨v9, e_v9, hf⟩ := m_bndE hf
              have q9 := tx_at (I := I) e_v9 (by omega) (by omega)
              rw [hc, show v8.toInt = p + 4 by omega] at q9
              rcases m_ifE hf with ⟨c7, hf⟩ | ⟨c7, hf⟩
              · skip
                replace c7 := ti_eqP (a := v9) (b := (49 : Int32)) c7 rfl (show (49 : Int32).toInt = 49 from rfl)
                obtain ⟨v10, e_v10, hf⟩ := m_bndE hf
                have t_v10 : v10.toInt = (I 37).toInt + 5 := ti_add e_v10 rfl (show (5 : Int32).toInt = 5 from rfl) (by omega) (by omega)
                obtain ⟨-, hf⟩ := m_chkE hf
                obtain ⟨v11, e_v11, hf⟩ := m_bndE hf
                have q11 := tx_at (I := I) e_v11 (by omega) (by omega)
                rw [hc, show v10.toInt = p + 5 by omega] at q11
                rcases m_ifE hf with ⟨c8, hf⟩ | ⟨c8, hf⟩
                · skip
                  replace c8 := ti_eqP (a := v11) (b := (47 : Int32)) c8 rfl (show (47 : Int32).toInt = 47 from rfl)
                  obtain ⟨v12, e_v12, hf⟩ := m_bndE hf
                  have t_v12 : v12.toInt = (I 37).toInt + 6 := ti_add e_v12 rfl (show (6 : Int32).toInt = 6 from rfl) (by omega) (by omega)
                  obtain ⟨-, hf⟩ := m_chkE hf
                  obtain ⟨v13, e_v13, hf⟩ := m_bndE hf
                  have q13 := tx_at (I := I) e_v13 (by omega) (by omega)
                  rw [hc, show v12.toInt = p + 6 by omega] at q13
                  rcases m_ifE hf with ⟨c9, hf⟩ | ⟨c9, hf⟩
                  · skip
                    replace c9 := ti_eqP (a := v13) (b := (50 : Int32)) c9 rfl (show (50 : Int32).toInt = 50 from rfl)
                    unfold f_resultHere_138 f_resultHere_148 at hf
                    rcases m_ifE hf with ⟨c9', hf⟩ | ⟨c9', hf⟩
                    · exact absurd c9' (by decide)
                    · cases hf
                      rw [if_pos ⟨q4.1 (by omega), by omega, by omega, by omega, by omega⟩]; rfl
                  · skip
                    replace c9 := ti_eqN (a := v13) (b := (50 : Int32)) c9 rfl (show (50 : Int32).toInt = 50 from rfl)
                    unfold f_resultHere_137 f_resultHere_138 f_resultHere_148 at hf
                    rcases m_ifE hf with ⟨c9', hf⟩ | ⟨c9', hf⟩
                    · cases hf
                      rw [if_neg (by omega)]; rfl
                    · exact absurd rfl c9'
                · skip
                  replace c8 := ti_eqN (a := v11) (b := (47 : Int32)) c8 rfl (show (47 : Int32).toInt = 47 from rfl)
                  unfold f_resultHere_137 f_resultHere_138 f_resultHere_148 at hf
                  rcases m_ifE hf with ⟨c9', hf⟩ | ⟨c9', hf⟩
                  · cases hf
                    rw [if_neg (by omega)]; rfl
                  · exact absurd rfl c9'
              · skip
                replace c7 := ti_eqN (a := v9) (b := (49 : Int32)) c7 rfl (show (49 : Int32).toInt = 49 from rfl)
                unfold f_resultHere_137 f_resultHere_138 f_resultHere_148 at hf
                rcases m_ifE hf with ⟨c9', hf⟩ | ⟨c9', hf⟩
                · cases hf
                  rw [if_neg (by omega)]; rfl
                · exact absurd rfl c9'
            · skip
              replace c6 := ti_eqN (a := v7) (b := (45 : Int32)) c6 rfl (show (45 : Int32).toInt = 45 from rfl)
              unfold f_resultHere_137 f_resultHere_138 f_resultHere_148 at hf
              rcases m_ifE hf with ⟨c9', hf⟩ | ⟨c9', hf⟩
              · cases hf
                rw [if_neg (by omega)]; rfl
              · exact absurd rfl c9'
      · skip
        replace c3 := ti_eqN (a := r3) (b := (0 : Int32)) c3 rfl (show (0 : Int32).toInt = 0 from rfl)
        cases hf
        try dsimp only
        rw [if_pos (q3.1 (by omega))]; rfl
    · skip
      replace c2 := ti_eqN (a := r2) (b := (0 : Int32)) c2 rfl (show (0 : Int32).toInt = 0 from rfl)
      cases hf
      try dsimp only
      rw [if_pos (q2.1 (by omega))]; rfl
end RSH
