section TEE
variable {I0 I : Nat → Int32} {A0 A : Nat → Nat → Int32} {ch : Int → Int} {N p q g k : Int} {u w : List Int} {o : Int32 × MS} {x1 x2 x3 x4 x5 x6 : Int32} {L : List (List Int × List Int)}
/-- the reference's tag from its closing quote on -/
theorem rt_end {n : Nat} (hN : N ≤ 2000) (G : TGi I0 A0 I A ch N q g k u w) (hq : q < N) (h34 : ch q = 34) (hL : TGr A0 g L) (hkL : k = (L.length : Int)) (hw : ∀ i, 0 ≤ wA w i ∧ wA w i ≤ 127) (hn9 : (I0 29).toInt ≤ 1999) (h1 : x1.toInt = g) (h2 : x2.toInt = p) (hp : 0 ≤ p ∧ p ≤ 2000) (h3 : x3.toInt = k) (h4 : x4.toInt = 0 ∨ x4.toInt = 1) (h48 : x4.toInt = 1 ↔ k = 8) (h5 : x5.toInt = (u.length : Int)) (h6 : x6.toInt = (w.length : Int)) (hf : f_readTag_175s (f_readTag_175 n) x1 x2 x3 x4 x5 x6 I A = some o) : (∃ e, BL ch (q + 1) e ∧ ch e ≠ 93 ∧ o.1.toInt = 10000 + e) ∨ (∃ e, BL ch (q + 1) e ∧ ch e = 93 ∧ TEo A0 I0 ch g L u w p (e + 1) o) := by
  obtain ⟨hIA, ⟨hc, hn⟩, ⟨h37, hp0⟩, -, -, -, -, -, ⟨hg, hk0, hk8⟩, hcb⟩ := id G
  have z0 : (0 : Int32).toInt = 0 := rfl
  have z1 : (1 : Int32).toInt = 1 := rfl
  have z2 : (2 : Int32).toInt = 2 := rfl
  have z3 : (3 : Int32).toInt = 3 := rfl
  have f2 : ∀ {I1 : Nat → Int32} {A1 : Nat → Nat → Int32} {e : Int}, RF2 L u w → f_readTag_370 x2 I1 A1 = some o → TEo A0 I0 ch g L u w p e o := by
    intro I1 A1 e hr hf
    unfold f_readTag_370 at hf
    obtain ⟨⟨r1, I2, A2⟩, h_r1, hf⟩ := m_clE hf
    dsimp only at hf
    have q1 := v_fault (x1 := 2) (x2 := x2) (by decide) (by omega) h_r1
    dsimp only at q1
    cases hf
    exact Or.inl ⟨hr, show r1.toInt = 20000 + p by omega⟩
  have lw := (show (w.length : Int) ≥ 0 by omega)
  unfold f_readTag_175s at hf
  obtain ⟨r1, h_r1, hf⟩ := m_clR hf (fun _ h => rro_look h)
  have p_r1 := pc_look h_r1
  dsimp only at p_r1
  have q1 := tgi_lk G h_r1
  dsimp only at q1
  clear p_r1
  rcases m_ifE hf with ⟨c1, hf⟩ | ⟨c1, hf⟩
  · skip
    replace c1 := ti_eqP (a := r1) (b := (34 : Int32)) c1 rfl (show (34 : Int32).toInt = 34 from rfl)
    obtain ⟨v2, e_v2, hf⟩ := m_bndE hf
    have t_v2 : v2.toInt = (I 37).toInt + 1 := ti_add e_v2 rfl (show (1 : Int32).toInt = 1 from rfl) (by omega) (by omega)
    obtain ⟨I3, e_I3, hf⟩ := m_bndE hf
    have G3 : TGi I0 A0 I3 A ch N (q + 1) g k u w := tgi_at G e_I3 (by omega) (by omega)
    obtain ⟨⟨r4, Ic4, Ac4⟩, h_r4, hf⟩ := m_clE hf
    dsimp only at hf
    obtain ⟨e, g4, G4, g4'⟩ := tgi_bl G3 hN h_r4
    dsimp only at G4
    have e37 := G4.2.2.1
    obtain ⟨r5, h_r5, hf⟩ := m_clR hf (fun _ h => rro_look h)
    have p_r5 := pc_look h_r5
    dsimp only at p_r5
    have q5 := tgi_lk G4 h_r5
    dsimp only at q5
    clear p_r5
    rcases m_ifE hf with ⟨c2, hf⟩ | ⟨c2, hf⟩
    · skip
      replace c2 := ti_eqP (a := r5) (b := (93 : Int32)) c2 rfl (show (93 : Int32).toInt = 93 from rfl)
      obtain ⟨v6, e_v6, hf⟩ := m_bndE hf
      have t_v6 : v6.toInt = (Ic4 37).toInt + 1 := ti_add e_v6 rfl (show (1 : Int32).toInt = 1 from rfl) (by omega) (by omega)
      obtain ⟨I7, e_I7, hf⟩ := m_bndE hf
      have G7 : TGi I0 A0 I7 Ac4 ch N (e + 1) g k u w := tgi_at G4 e_I7 (by omega) (by omega)
      obtain ⟨⟨T7, K7⟩, -, ⟨h737, -⟩, i7, a7, a720, a722, a7k, -, -⟩ := id G7
      rcases m_ifE hf with ⟨c3, hf⟩ | ⟨c3, hf⟩
      · skip
        replace c3 := ti_eqP (a := x4) (b := (0 : Int32)) c3 rfl (show (0 : Int32).toInt = 0 from rfl)
        rcases m_ifE hf with ⟨c4, hf⟩ | ⟨c4, hf⟩
        · skip
          replace c4 := ti_ltP (a := (12 : Int32)) (b := x5) c4 (show (12 : Int32).toInt = 12 from rfl) rfl
          exact Or.inr ⟨e, g4, by omega, f2 (Or.inr (Or.inl (by omega))) hf⟩
        · skip
          replace c4 := ti_ltN (a := (12 : Int32)) (b := x5) c4 (show (12 : Int32).toInt = 12 from rfl) rfl
          rcases m_ifE hf with ⟨c5, hf⟩ | ⟨c5, hf⟩
          · skip
            replace c5 := ti_leP (a := x6) (b := (96 : Int32)) c5 rfl (show (96 : Int32).toInt = 96 from rfl)
            obtain ⟨v8, e_v8, hf⟩ := m_bndE hf
            have t_v8 : v8.toInt = 8 * x1.toInt := ti_mul e_v8 (show (8 : Int32).toInt = 8 from rfl) rfl (by omega) (by omega)
            obtain ⟨v9, e_v9, hf⟩ := m_bndE hf
            have t_v9 : v9.toInt = v8.toInt + x3.toInt := ti_add e_v9 rfl rfl (by omega) (by omega)
            obtain ⟨-, hf⟩ := m_chkE hf
            obtain ⟨A10, e_A10, hf⟩ := m_bndE hf
            have k8 : k ≠ 8 := fun e8 => by have := h48.2 e8; omega
            have o10 : ∀ j, j ≠ 19 → A10 j = Ac4 j := fun j hj => by rw [e_A10]; exact va_up_ne _ _ hj
            have xn9 : v9.toNatClampNeg = (8 * g + k).toNat := by rw [← show v9.toInt = 8 * g + k by omega]; rfl
            have n10 : A10 19 = upd (Ac4 19) (8 * g + k).toNat x5 := by rw [e_A10, va_up_self, xn9]
            have K10 : TK A10 := by rw [e_A10]; exact tk_u K7 (show (0 : Int) ≤ x5.toInt by omega) (show x5.toInt ≤ (12 : Int) by omega)
            obtain ⟨v11, e_v11, hf⟩ := m_bndE hf
            have t_v11 : v11.toInt = 8 * x1.toInt := ti_mul e_v11 (show (8 : Int32).toInt = 8 from rfl) rfl (by omega) (by omega)
            obtain ⟨v12, e_v12, hf⟩ := m_bndE hf
            have t_v12 : v12.toInt = v11.toInt + x3.toInt := ti_add e_v12 rfl rfl (by omega) (by omega)
            obtain ⟨-, hf⟩ := m_chkE hf
            obtain ⟨A13, e_A13, hf⟩ := m_bndE hf
            have o13 : ∀ j, j ≠ 21 → A13 j = A10 j := fun j hj => by rw [e_A13]; exact va_up_ne _ _ hj
            have xn12 : v12.toNatClampNeg = (8 * g + k).toNat := by rw [← show v12.toInt = 8 * g + k by omega]; rfl
            have n13 : A13 21 = upd (A10 21) (8 * g + k).toNat x6 := by rw [e_A13, va_up_self, xn12]
            have K13 : TK A13 := by rw [e_A13]; exact tk_u K10 (show (0 : Int) ≤ x6.toInt by omega) (show x6.toInt ≤ (96 : Int) by omega)
            have k19 : ∀ i, A13 19 i = upd (Ac4 19) (8 * g + k).toNat x5 i := fun i => by rw [o13 19 (by decide), n10]
            have k21 : ∀ i, A13 21 i = upd (Ac4 21) (8 * g + k).toNat x6 i := fun i => by rw [n13, o10 21 (by decide)]
            have k20 : A13 20 = Ac4 20 := by rw [o13 20 (by decide), o10 20 (by decide)]
            have k22 : A13 22 = Ac4 22 := by rw [o13 22 (by decide), o10 22 (by decide)]
            have kj : ∀ j, j ≠ 19 → j ≠ 20 → j ≠ 21 → j ≠ 22 → A13 j = A0 j := fun j j1 j2 j3 j4 => by rw [o13 j j3, o10 j j1]; exact a7 j j2 j4
            have T13 := tgr_nm (A1 := A13) (u := u) (w := w) hL hg hkL k8 (fun i hi => by rw [k19, upd_ne (by omega), a7 19 (by decide) (by decide)]) (by rw [k19, upd_self]; exact h5) (by omega) (fun i hi => by rw [k21, upd_ne (by omega), a7 21 (by decide) (by decide)]) (by rw [k21, upd_self]; exact h6) (by omega) (fun i hi => by rw [k20]; exact a720 i (Or.inr hi)) (fun i hi => by rw [k22]; exact a722 i (Or.inr hi)) (fun i i0 i1 i2 => by rw [k20]; exact (a7k k8).1 i i0 i1 i2) (fun i i0 i1 i2 => by rw [k22]; exact (a7k k8).2 i i0 i1 i2)
            have h18 : (A13 18 g.toNat).toInt = k := by rw [kj 18 (by decide) (by decide) (by decide) (by decide), hkL]; exact hL.1
            obtain ⟨r14, h_r14, hf⟩ := m_clR hf (fun _ h => rro_isNameThere h)
            obtain ⟨b14, q14⟩ := v_isNameThere (nf := nmL L) T13.1 (fun i i0 i1 => (T13.2.2 i i0 i1).1) hg (by omega) h1 h3 h_r14
            dsimp only at b14 q14
            rcases m_ifE hf with ⟨c6, hf⟩ | ⟨c6, hf⟩
            · skip
              replace c6 := ti_eqP (a := r14) (b := (0 : Int32)) c6 rfl (show (0 : Int32).toInt = 0 from rfl)
              have nrf : ¬ RF2 L u w := by
                rintro (a | a | a | ⟨i, a, b, c⟩)
                · omega
                · omega
                · omega
                · have := q14.2 ⟨i, a, by omega, c⟩; omega
              obtain ⟨r15, h_r15, hf⟩ := m_clR hf (fun _ h => rro_isTag h)
              obtain ⟨b15, q15⟩ := v_isTag (s := strL 0) T13.1 hg (by omega) h3 h1 (Or.inl ⟨rfl, rfl⟩) h_r15
              dsimp only at b15 q15
              rcases m_ifE hf with ⟨c7, hf⟩ | ⟨c7, hf⟩
              · skip
                replace c7 := ti_eqP (a := r15) (b := (0 : Int32)) c7 rfl (show (0 : Int32).toInt = 0 from rfl)
                obtain ⟨d1, d2, d3, d4, -⟩ := v_457 hg h1 h18 (by omega) hf
                refine Or.inr ⟨e, g4, by omega, Or.inr (Or.inr ⟨nrf, d1, by rw [d2]; omega, tgr_add hkL (by omega) T13 (fun j hj => d3 j (by omega)) d4, Or.inl ⟨fun eu => by have := q15.2 eu; omega, fun j hj => by rw [d2]; exact i7 j hj, by rw [d3 16 (by decide)]; exact kj 16 (by decide) (by decide) (by decide) (by decide), by rw [d3 17 (by decide)]; exact kj 17 (by decide) (by decide) (by decide) (by decide)⟩⟩)⟩
              · skip
                replace c7 := ti_eqN (a := r15) (b := (0 : Int32)) c7 rfl (show (0 : Int32).toInt = 0 from rfl)
                obtain ⟨v16, e_v16, hf⟩ := m_bndE hf
                have t_v16 : v16.toInt = 768 * x1.toInt := ti_mul e_v16 (show (768 : Int32).toInt = 768 from rfl) rfl (by omega) (by omega)
                obtain ⟨v17, e_v17, hf⟩ := m_bndE hf
                have t_v17 : v17.toInt = 96 * x3.toInt := ti_mul e_v17 (show (96 : Int32).toInt = 96 from rfl) rfl (by omega) (by omega)
                obtain ⟨v18, e_v18, hf⟩ := m_bndE hf
                have t_v18 : v18.toInt = v16.toInt + v17.toInt := ti_add e_v18 rfl rfl (by omega) (by omega)
                obtain ⟨⟨r19, Ic19, Ac19⟩, h_r19, hf⟩ := m_clE hf
                dsimp only at hf
                have uF : u = strL 0 := q15.1 (by omega)
                have V22 : ∀ i : Int, 0 ≤ i → wA w i = vR A13 (768 * g + 96 * k) (w.length : Int) i := fun i i0 => by
                  unfold vR
                  by_cases c : i < (w.length : Int)
                  · rw [if_pos c]; exact (T13.2.1.2.2 i i0 c).symm
                  · rw [if_neg c]; exact wA_out (Or.inr (by omega))
                have g19 := v_readPosition (b := 768 * g + 96 * k) (n := (w.length : Int)) (V := wA w) T7 K13 (by omega) h6 (by omega) V22 hw h_r19
                have F19 := fw_readPosition h_r19
                dsimp only at g19 F19
                rcases m_ifE hf with ⟨c8, hf⟩ | ⟨c8, hf⟩
                · skip
                  replace c8 := ti_eqP (a := r19) (b := (0 : Int32)) c8 rfl (show (0 : Int32).toInt = 0 from rfl)
                  obtain ⟨r21, h_r21, hf⟩ := m_clR hf (fun _ h => rro_fault h)
                  have q21 := v_fault (x1 := 3) (x2 := x2) (by decide) (by omega) h_r21
                  dsimp only at q21
                  cases hf
                  try dsimp only
                  rcases g19 with ⟨a, -⟩ | ⟨-, a⟩
                  · omega
                  · exact Or.inr ⟨e, g4, by omega, Or.inr (Or.inl ⟨nrf, uF, a, show r21.toInt = 30000 + p by omega⟩)⟩
                · skip
                  replace c8 := ti_eqN (a := r19) (b := (0 : Int32)) c8 rfl (show (0 : Int32).toInt = 0 from rfl)
                  obtain ⟨⟨r20, Ic20, Ac20⟩, h_r20, hf⟩ := m_clE hf
                  dsimp only at hf
                  obtain ⟨m, sd, rt, ps, nb, f1, f2', f3⟩ : ∃ m sd rt ps nb, FENp (wA w) (w.length : Int) m sd rt ps nb ∧ MBd m ∧ RES (r19, Ic19, Ac19) m sd rt ps nb := by
                    rcases g19 with ⟨-, a⟩ | ⟨a, -⟩
                    · exact a
                    · omega
                  obtain ⟨f31, f32, f33, f34, f35⟩ := f3
                  dsimp only at f31 f32 f33 f34 f35
                  obtain ⟨d1, d2, d3⟩ := v_start hg h1 f31 h_r20
                  dsimp only at d1 d2 d3
                  rw [f32, f33, f34, f35] at d2
                  have k20' : ∀ j, j ≠ 16 → j ≠ 17 → j ≠ 24 → Ac20 j = A13 j := fun j j1 j2 j3 => (d3.2.2 j j1 j2).trans (F19.2 j (by simp; exact j3))
                  obtain ⟨t1, t2, t3, t4, -⟩ := v_457 (A := Ac20) (k := k) hg h1 (by rw [k20' 18 (by decide) (by decide) (by decide)]; exact h18) (by omega) hf
                  refine Or.inr ⟨e, g4, by omega, Or.inr (Or.inr ⟨nrf, t1, ?_, tgr_add (A1 := A13) hkL (by omega) T13 (fun j hj => (t3 j (by omega)).trans (k20' j (by omega) (by omega) (by omega))) t4, Or.inr ⟨uF, fun j hj => ?_, m, sd, rt, ps, nb, f1, f2', ?_⟩⟩)⟩
                  · rw [t2, d1, F19.1 37 (by decide)]; omega
                  · rw [t2, d1, F19.1 j (by simp; omega)]; exact i7 j (by omega)
                  · unfold SPo
                    rw [t3 16 (by decide), t3 17 (by decide)]
                    exact d2
            · skip
              replace c6 := ti_eqN (a := r14) (b := (0 : Int32)) c6 rfl (show (0 : Int32).toInt = 0 from rfl)
              obtain ⟨r22, h_r22, hf⟩ := m_clR hf (fun _ h => rro_fault h)
              have q22 := v_fault (x1 := 2) (x2 := x2) (by decide) (by omega) h_r22
              dsimp only at q22
              cases hf
              try dsimp only
              exact Or.inr ⟨e, g4, by omega, Or.inl ⟨Or.inr (Or.inr (Or.inr (by obtain ⟨i, a, b, c⟩ := q14.1 (by omega); exact ⟨i, a, by omega, c⟩))), show r22.toInt = 20000 + p by omega⟩⟩
          · skip
            replace c5 := ti_leN (a := x6) (b := (96 : Int32)) c5 rfl (show (96 : Int32).toInt = 96 from rfl)
            exact Or.inr ⟨e, g4, by omega, f2 (Or.inr (Or.inr (Or.inl (by omega)))) hf⟩
      · skip
        replace c3 := ti_eqN (a := x4) (b := (0 : Int32)) c3 rfl (show (0 : Int32).toInt = 0 from rfl)
        exact Or.inr ⟨e, g4, by omega, f2 (Or.inl (by have := h48.1 (by omega); omega)) hf⟩
    · skip
      replace c2 := ti_eqN (a := r5) (b := (93 : Int32)) c2 rfl (show (93 : Int32).toInt = 93 from rfl)
      obtain ⟨r23, h_r23, hf⟩ := m_clR hf (fun _ h => rro_fault h)
      have q23 := v_fault (x1 := 1) (x2 := Ic4 37) (by decide) (by omega) h_r23
      dsimp only at q23
      cases hf
      try dsimp only
      exact Or.inl ⟨e, g4, by omega, by omega⟩
  · skip
    replace c1 := ti_eqN (a := r1) (b := (34 : Int32)) c1 rfl (show (34 : Int32).toInt = 34 from rfl)
    omega
end TEE
