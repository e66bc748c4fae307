section
noncomputable def tkA (lo : Bool) (m : Int → Int) (x : Int) : Int := if lo = true then 0 else if m (x / 64 % 64) ≠ 0 ∨ (m (x % 64) % 8 = 1 ∧ x % 64 % 8 ≠ x / 64 % 64 % 8) then 1 else 0
/-- which ways of telling a move apart may be used -/
noncomputable def mayA (m : Int → Int) (x ap : Int) : Prop := ((m (x % 64) % 8 = 6 ∧ (x / 64 % 64 = x % 64 + 2 ∨ x / 64 % 64 = x % 64 - 2)) ∧ ap = 0) ∨ (¬ (m (x % 64) % 8 = 6 ∧ (x / 64 % 64 = x % 64 + 2 ∨ x / 64 % 64 = x % 64 - 2)) ∧ (m (x % 64) % 8 ≠ 1 ∨ ap = 1 ∨ (ap = 0 ∧ ¬ tkg m (x % 64) (x / 64 % 64))))
noncomputable def okA (m : Int → Int) (sd rt ps kw kb : Int) (lo : Bool) (ch : Int → Int) (a b x ap : Int) : Prop := txF lo ch a (b - a).toNat = spW m x ap (tkA lo m x) ∨ (lo = false ∧ a < b ∧ (ch (b - 1) = 43 ∨ ch (b - 1) = 35) ∧ txF false ch a (b - 1 - a).toNat = spW m x ap (tkA lo m x) ∧ csF m sd rt ps kw kb x (ch (b - 1)))
/-- a move fits a piece of text, by the reference -/
noncomputable def FRs (m : Int → Int) (sd rt ps kw kb : Int) (lo : Bool) (ch : Int → Int) (a b x : Int) : Prop := ∃ ap : Int, 0 ≤ ap ∧ ap ≤ 3 ∧ mayA m x ap ∧ okA m sd rt ps kw kb lo ch a b x ap
/-- the reference while signs are read -/
noncomputable def FJ (m : Int → Int) (sd rt ps : Int) (ch : Int → Int) (n1 : Int) (I : Nat → Int32) (A : Nat → Nat → Int32) : Prop := TJ I ∧ TK A ∧ mR A = m ∧ (I 25).toInt = sd ∧ (I 26).toInt = rt ∧ (I 27).toInt = ps ∧ (I 29).toInt ≤ 1999 ∧ txR I A = ch ∧ (I 1).toInt = n1
section FTS
variable {m : Int → Int} {sd rt ps kw kb ko : Int} {I : Nat → Int32} {A : Nat → Nat → Int32} {o : Int32 × MS} {x1 x2 x3 x4 x6 x7 : Int32} {ch : Int → Int} {n1 : Int} {lo : Bool}
theorem spW_l {m : Int → Int} {x ap tk : Int} : (spW m x ap tk).length ≤ 8 := by
  unfold spW
  split
  · split <;> decide
  · unfold rend
    simp only [List.length_append]
    have h : ∀ (c : Prop) [Decidable c] (u : List Int) (n : Nat), u.length ≤ n → (if c then u else []).length ≤ n := fun c _ u n hu => by
      split
      · exact hu
      · exact Nat.zero_le _
    have h1 := h (2 ≤ m (x % 64) % 8) [ltK (m (x % 64) % 8)] 1 (Nat.le_refl _)
    have h2 := h (0 ≤ (if ap % 2 = 1 then x % 64 % 8 else -1)) [97 + (if ap % 2 = 1 then x % 64 % 8 else -1)] 1 (Nat.le_refl _)
    have h3 := h (0 ≤ (if 1 < ap then x % 64 / 8 else -1)) [49 + (if 1 < ap then x % 64 / 8 else -1)] 1 (Nat.le_refl _)
    have h4 := h (tk = 1) [120] 1 (Nat.le_refl _)
    have h5 := h (2 ≤ x / 4096) [61, ltK (x / 4096)] 2 (Nat.le_refl _)
    have h6 : ([97 + x / 64 % 64 % 8, 49 + x / 64 % 64 / 8] : List Int).length = 2 := rfl
    omega
theorem tx_fr {I2 : Nat → Int32} {A2 : Nat → Nat → Int32} (h1 : I2 1 = I 1) (h2 : A2 2 = A 2) : txR I2 A2 = txR I A := by
  funext i
  unfold txR
  rw [h1, h2]
theorem fj_sp {r : Int32} {I2 : Nat → Int32} {A2 : Nat → Nat → Int32} (hJ : FJ m sd rt ps ch n1 I A) (hx : 0 ≤ x1.toInt ∧ x1.toInt ≤ 24575) (h2 : 0 ≤ x2.toInt ∧ x2.toInt ≤ 3) (h3 : x3.toInt = 0 ∨ x3.toInt = 1) (hf : f_spellMove x1 x2 x3 I A = some (r, I2, A2)) : FJ m sd rt ps ch n1 I2 A2 := by
  obtain ⟨hI, hA, hm, i25, i26, i27, i29, hch, i1⟩ := hJ
  obtain ⟨a1, a2, -⟩ := ok_of (t_spellMove hI hA hx h2 (by omega)) hf
  have fw := fw_spellMove hf
  have fI : ∀ j, j ≠ 36 → I2 j = I j := fun j hj => fw.1 j (by simpa using hj)
  have fA : ∀ j, j ≠ 35 → A2 j = A j := fun j hj => fw.2 j (by simpa using hj)
  exact ⟨a1, a2, (mR_fr (fA 24 (by decide))).trans hm, by rw [fI 25 (by decide)]; exact i25, by rw [fI 26 (by decide)]; exact i26, by rw [fI 27 (by decide)]; exact i27, by rw [fI 29 (by decide)]; exact i29, (tx_fr (fI 1 (by decide)) (fA 2 (by decide))).trans hch, by rw [fI 1 (by decide)]; exact i1⟩
theorem fj_nA (hJ : FJ m sd rt ps ch n1 I A) : FJ m sd rt ps ch n1 I (nA I A) := by
  obtain ⟨hI, hA, hm, i25, i26, i27, i29, hch, i1⟩ := hJ
  exact ⟨hI, tk_nA hI hA, by rw [mR_nA]; exact hm, i25, i26, i27, i29, (tx_fr rfl (nA_o (by decide) (by decide))).trans hch, i1⟩
theorem tkA_b : tkA lo m x1.toInt = 0 ∨ tkA lo m x1.toInt = 1 := by
  unfold tkA
  split
  · exact Or.inl rfl
  · split
    · exact Or.inr rfl
    · exact Or.inl rfl
theorem ft_116 {self37 : Int32 → Int32 → Int32 → Int32 → Int32 → Int32 → Int32 → (Nat → Int32) → (Nat → Nat → Int32) → Option (Int32 × MS)} {x8 t0 : Int32} {G : Prop} (hJ : FJ m sd rt ps ch n1 I A) (hP : POS m sd rt ps kw kb) (hko : ko = if sd = 0 then kw else kb) (hL : LGx m sd rt ps ko x1.toInt) (h2 : 0 ≤ x2.toInt ∧ x2.toInt ≤ 2000) (h3 : 0 ≤ x3.toInt ∧ x3.toInt ≤ n1) (hn1 : n1 ≤ 2000) (h4 : x4.toInt = if lo = true then 1 else 0) (h8 : 0 ≤ x8.toInt ∧ x8.toInt ≤ 3) (ht : t0.toInt = tkA lo m x1.toInt) (H1 : ∀ I A, FJ m sd rt ps ch n1 I A → okA m sd rt ps kw kb lo ch x2.toInt x3.toInt x1.toInt x8.toInt → o = (1, (I, A)) → G) (H0 : ∀ I A, FJ m sd rt ps ch n1 I A → ¬ okA m sd rt ps kw kb lo ch x2.toInt x3.toInt x1.toInt x8.toInt → f_fits_198 self37 x1 x2 x3 x4 x6 x7 x8 I A = some o → G) (hf : f_fits_116 self37 x1 x2 x3 x4 x6 x7 x8 t0 x8 x1 I A = some o) : G := by
  obtain ⟨hI, hA, hm, i25, i26, i27, i29, hch, i1⟩ := id hJ
  have hM := hP.2.1
  obtain ⟨hx, hr, hp, hs⟩ := id hL
  have hpr : x1.toInt / 4096 = 0 ∨ (2 ≤ x1.toInt / 4096 ∧ x1.toInt / 4096 ≤ 5) := by unfold PRo at hp; omega
  have tb := tkA_b (lo := lo) (m := m) (x1 := x1)
  have z0 : (0 : Int32).toInt = 0 := rfl
  have chb : x3.toInt - 1 < n1 := by omega
  unfold f_fits_116 at hf
  obtain ⟨⟨r1, Ic1, Ac1⟩, h_r1, hf⟩ := m_clE hf
  dsimp only at hf
  have S1 := p_spellMove hI hA hm hM hx hr.1.1 hpr h8 (by omega) h_r1
  dsimp only at S1
  rw [ht] at S1
  have J1 := fj_sp hJ hx h8 (by omega) h_r1
  obtain ⟨hI1, hA1, hm1, j25, j26, j27, j29, hch1, j1⟩ := id J1
  have hl8 := spW_l (m := m) (x := x1.toInt) (ap := x8.toInt) (tk := tkA lo m x1.toInt)
  obtain ⟨r2, h_r2, hf⟩ := m_clR hf (fun _ h => rro_isSpelled h)
  obtain ⟨b2, q2⟩ := p_isSpelled S1 (by omega) hch1 h2 (by omega) (by omega) h4 h_r2
  dsimp only at b2 q2
  have no : ¬ (lo = false ∧ x2.toInt < x3.toInt ∧ (ch (x3.toInt - 1) = 43 ∨ ch (x3.toInt - 1) = 35)) → r2.toInt = 0 → ¬ okA m sd rt ps kw kb lo ch x2.toInt x3.toInt x1.toInt x8.toInt := fun hn h0 h => by
    rcases h with h | h
    · have := q2.2 h; omega
    · exact hn ⟨h.1, h.2.1, h.2.2.1⟩
  have chk : (ch (x3.toInt - 1) = 43 ∨ ch (x3.toInt - 1) = 35) → x2.toInt < x3.toInt → lo = false → r2.toInt = 0 → f_fits_168 self37 x1 x2 x3 x4 x6 x7 x8 Ic1 Ac1 = some o → G := by
    intro hc hlt hlo h0 hf
    unfold f_fits_168 at hf
    obtain ⟨v1, e1, hf⟩ := m_bndE hf
    have t1 : v1.toInt = x3.toInt - 1 := ti_sub e1 rfl (show (1 : Int32).toInt = 1 from rfl) (by omega) (by omega)
    obtain ⟨r3, h3', hf⟩ := m_clR hf (fun _ h => rro_isSpelled h)
    obtain ⟨b3, q3⟩ := p_isSpelled (lo := false) S1 (by omega) hch1 h2 (by omega) (by omega) rfl h3'
    dsimp only at b3 q3
    rw [t1, show x3.toInt - 1 - x2.toInt = x3.toInt - 1 - x2.toInt from rfl] at q3
    rcases m_ifE hf with ⟨c5, hf⟩ | ⟨c5, hf⟩
    · replace c5 := ti_eqP (a := r3) (b := (0 : Int32)) c5 rfl rfl
      refine H0 Ic1 Ac1 J1 (fun h => ?_) hf
      rcases h with h | h
      · have := q2.2 h; omega
      · have := q3.2 h.2.2.2.1; omega
    · replace c5 := ti_eqN (a := r3) (b := (0 : Int32)) c5 rfl rfl
      obtain ⟨⟨r6, I6, A6⟩, h6, hf⟩ := m_clE hf
      dsimp only at hf
      obtain ⟨e6, q6⟩ := p_behind hI1 hA1 hm1 j25 j26 j27 j29 hP hko hL h6
      dsimp only at e6 q6
      have eI : I6 = Ic1 := congrArg Prod.fst e6
      have eA : A6 = nA Ic1 Ac1 := congrArg Prod.snd e6
      obtain ⟨v4, e4, hf⟩ := m_bndE hf
      have t4 : v4.toInt = x3.toInt - 1 := ti_sub e4 rfl (show (1 : Int32).toInt = 1 from rfl) (by omega) (by omega)
      obtain ⟨-, hf⟩ := m_chkE hf
      obtain ⟨v5, e5, hf⟩ := m_bndE hf
      have t5 : v5.toInt = ch (x3.toInt - 1) := by
        rw [← hch1, ← t4]
        refine tx_at ?_ (by omega) (by omega)
        rw [e5, eA, nA_o (by decide) (by decide)]
      have J6 : FJ m sd rt ps ch n1 I6 A6 := by rw [eI, eA]; exact fj_nA J1
      rcases m_ifE hf with ⟨c6, hf⟩ | ⟨c6, hf⟩
      · obtain ⟨-, hf⟩ := m_chkE hf
        refine H1 I6 A6 J6 (Or.inr ⟨hlo, hlt, hc, q3.1 (by omega), ?_⟩) (Option.some.inj hf).symm
        rw [← t5, ← c6]
        exact q6
      · refine H0 I6 A6 J6 (fun h => ?_) hf
        rcases h with h | h
        · have := q2.2 h; omega
        · have := csP_u q6 h.2.2.2.2
          rw [← t5] at this
          exact c6 (Int32.toInt_inj.1 this)
  rcases m_ifE hf with ⟨c1, hf⟩ | ⟨c1, hf⟩
  · skip
    replace c1 := ti_eqP (a := r2) (b := (0 : Int32)) c1 rfl (show (0 : Int32).toInt = 0 from rfl)
    rcases m_ifE hf with ⟨c2, hf⟩ | ⟨c2, hf⟩
    · skip
      replace c2 := ti_eqP (a := x4) (b := (0 : Int32)) c2 rfl (show (0 : Int32).toInt = 0 from rfl)
      have hlo : lo = false := by
        cases lo
        · rfl
        · rw [if_pos rfl] at h4
          omega
      rcases m_ifE hf with ⟨c3, hf⟩ | ⟨c3, hf⟩
      · skip
        replace c3 := ti_leP (a := x3) (b := x2) c3 rfl rfl
        exact H0 Ic1 Ac1 J1 (no (fun h => by omega) (by omega)) hf
      · skip
        replace c3 := ti_leN (a := x3) (b := x2) c3 rfl rfl
        obtain ⟨v3, e_v3, hf⟩ := m_bndE hf
        have t_v3 : v3.toInt = x3.toInt - 1 := ti_sub e_v3 rfl (show (1 : Int32).toInt = 1 from rfl) (by omega) (by omega)
        obtain ⟨-, hf⟩ := m_chkE hf
        obtain ⟨v4, e_v4, hf⟩ := m_bndE hf
        have q4 : v4.toInt = ch (x3.toInt - 1) := by rw [← hch1, ← t_v3]; exact tx_at e_v4 (by omega) (by omega)
        rcases m_ifE hf with ⟨c4, hf⟩ | ⟨c4, hf⟩
        · skip
          replace c4 := ti_eqP (a := v4) (b := (43 : Int32)) c4 rfl (show (43 : Int32).toInt = 43 from rfl)
          exact chk (Or.inl (by omega)) (by omega) hlo (by omega) hf
        · skip
          replace c4 := ti_eqN (a := v4) (b := (43 : Int32)) c4 rfl (show (43 : Int32).toInt = 43 from rfl)
          obtain ⟨v5, e_v5, hf⟩ := m_bndE hf
          have t_v5 : v5.toInt = x3.toInt - 1 := ti_sub e_v5 rfl (show (1 : Int32).toInt = 1 from rfl) (by omega) (by omega)
          obtain ⟨-, hf⟩ := m_chkE hf
          obtain ⟨v6, e_v6, hf⟩ := m_bndE hf
          have q6 : v6.toInt = ch (x3.toInt - 1) := by rw [← hch1, ← t_v5]; exact tx_at e_v6 (by omega) (by omega)
          rcases m_ifE hf with ⟨c5, hf⟩ | ⟨c5, hf⟩
          · skip
            replace c5 := ti_eqP (a := v6) (b := (35 : Int32)) c5 rfl (show (35 : Int32).toInt = 35 from rfl)
            exact chk (Or.inr (by omega)) (by omega) hlo (by omega) hf
          · skip
            replace c5 := ti_eqN (a := v6) (b := (35 : Int32)) c5 rfl (show (35 : Int32).toInt = 35 from rfl)
            exact H0 Ic1 Ac1 J1 (no (fun h => by omega) (by omega)) hf
    · skip
      replace c2 := ti_eqN (a := x4) (b := (0 : Int32)) c2 rfl (show (0 : Int32).toInt = 0 from rfl)
      refine H0 Ic1 Ac1 J1 (no (fun h => ?_) (by omega)) hf
      rw [h.1, if_neg (by decide)] at h4
      exact absurd h4 c2
  · skip
    replace c1 := ti_eqN (a := r2) (b := (0 : Int32)) c1 rfl (show (0 : Int32).toInt = 0 from rfl)
    obtain ⟨-, hf⟩ := m_chkE hf
    cases hf
    try dsimp only
    exact H1 Ic1 Ac1 J1 (Or.inl (q2.1 (by omega))) rfl
theorem ft_37 (hP : POS m sd rt ps kw kb) (hko : ko = if sd = 0 then kw else kb) (hL : LGx m sd rt ps ko x1.toInt) (h2 : 0 ≤ x2.toInt ∧ x2.toInt ≤ 2000) (h3 : 0 ≤ x3.toInt ∧ x3.toInt ≤ n1) (hn1 : n1 ≤ 2000) (h4 : x4.toInt = if lo = true then 1 else 0) (h6 : x6.toInt = 0 ∨ x6.toInt = 1) (q6 : x6.toInt = 1 ↔ m (x1.toInt % 64) % 8 = 1) (h7 : x7.toInt = 0 ∨ x7.toInt = 1) (q7 : x7.toInt = 1 ↔ tkg m (x1.toInt % 64) (x1.toInt / 64 % 64)) : ∀ (n : Nat) (x8 : Int32) (I : Nat → Int32) (A : Nat → Nat → Int32), (0 ≤ x8.toInt ∧ x8.toInt ≤ 4) → FJ m sd rt ps ch n1 I A → f_fits_37 n x1 x2 x3 x4 x6 x7 x8 I A = some o → FJ m sd rt ps ch n1 o.2.1 o.2.2 ∧ (o.1.toInt = 0 ∨ o.1.toInt = 1) ∧ (o.1.toInt = 1 ↔ ∃ ap : Int, x8.toInt ≤ ap ∧ ap ≤ 3 ∧ mayA m x1.toInt ap ∧ okA m sd rt ps kw kb lo ch x2.toInt x3.toInt x1.toInt ap) := by
  intro n
  have hM := hP.2.1
  have hx := hL.1
  have z0 : (0 : Int32).toInt = 0 := rfl
  induction n with
  | zero => intro x8 I A _ _ hf; cases hf
  | succ n ih =>
    intro x8 I A h8 hJ hf
    have hf : f_fits_37s (f_fits_37 n) x1 x2 x3 x4 x6 x7 x8 I A = some o := hf
    obtain ⟨hI, hA, hm, i25, i26, i27, i29, hch, i1⟩ := id hJ
    have nxt : ∀ I A, FJ m sd rt ps ch n1 I A → ¬ (mayA m x1.toInt x8.toInt ∧ okA m sd rt ps kw kb lo ch x2.toInt x3.toInt x1.toInt x8.toInt) → x8.toInt < 4 → f_fits_198 (f_fits_37 n) x1 x2 x3 x4 x6 x7 x8 I A = some o → FJ m sd rt ps ch n1 o.2.1 o.2.2 ∧ (o.1.toInt = 0 ∨ o.1.toInt = 1) ∧ (o.1.toInt = 1 ↔ ∃ ap : Int, x8.toInt ≤ ap ∧ ap ≤ 3 ∧ mayA m x1.toInt ap ∧ okA m sd rt ps kw kb lo ch x2.toInt x3.toInt x1.toInt ap) := by
      intro I A hJ hn hlt hf
      unfold f_fits_198 at hf
      obtain ⟨v1, e1, hf⟩ := m_bndE hf
      have t1 : v1.toInt = x8.toInt + 1 := ti_add e1 rfl (show (1 : Int32).toInt = 1 from rfl) (by omega) (by omega)
      obtain ⟨g1, g2, g3⟩ := ih v1 I A (by omega) hJ hf
      refine ⟨g1, g2, g3.trans ⟨?_, ?_⟩⟩
      · rintro ⟨ap, p1, p2⟩
        exact ⟨ap, by omega, p2⟩
      · rintro ⟨ap, p1, p2⟩
        by_cases e : ap = x8.toInt
        · rw [e] at p2; exact absurd p2.2 hn
        · exact ⟨ap, by omega, p2⟩
    have go : mayA m x1.toInt x8.toInt → x8.toInt < 4 → ∀ t0 : Int32, t0.toInt = 1 → f_fits_90 (f_fits_37 n) x1 x2 x3 x4 x6 x7 x8 t0 I A = some o → FJ m sd rt ps ch n1 o.2.1 o.2.2 ∧ (o.1.toInt = 0 ∨ o.1.toInt = 1) ∧ (o.1.toInt = 1 ↔ ∃ ap : Int, x8.toInt ≤ ap ∧ ap ≤ 3 ∧ mayA m x1.toInt ap ∧ okA m sd rt ps kw kb lo ch x2.toInt x3.toInt x1.toInt ap) := by
      intro hmay hlt t0 ht0 hf
      have run : ∀ t9 : Int32, t9.toInt = tkA lo m x1.toInt → f_fits_116 (f_fits_37 n) x1 x2 x3 x4 x6 x7 x8 t9 x8 x1 I A = some o → FJ m sd rt ps ch n1 o.2.1 o.2.2 ∧ (o.1.toInt = 0 ∨ o.1.toInt = 1) ∧ (o.1.toInt = 1 ↔ ∃ ap : Int, x8.toInt ≤ ap ∧ ap ≤ 3 ∧ mayA m x1.toInt ap ∧ okA m sd rt ps kw kb lo ch x2.toInt x3.toInt x1.toInt ap) := by
        intro t9 ht9 hf
        refine ft_116 hJ hP hko hL h2 h3 hn1 h4 ⟨h8.1, by omega⟩ ht9 (fun I A hJ hok ho => ?_) (fun I A hJ hn hf => nxt I A hJ (fun h => hn h.2) hlt hf) hf
        rw [ho]
        exact ⟨hJ, Or.inr rfl, fun _ => ⟨x8.toInt, Int.le_refl _, by omega, hmay, hok⟩, fun _ => rfl⟩
      unfold f_fits_90 at hf
      rcases m_ifE hf with ⟨c, hf⟩ | ⟨c, hf⟩
      · rw [c] at ht0; omega
      · rcases m_ifE hf with ⟨d, hf⟩ | ⟨d, hf⟩
        · replace d := ti_eqP (a := x7) (b := (0 : Int32)) d rfl rfl
          unfold f_fits_115 at hf
          refine run 0 ?_ hf
          unfold tkA
          by_cases hl : lo = true
          · rw [if_pos hl]; rfl
          · rw [if_neg hl, if_neg (fun h => by have := q7.2 h; omega)]; rfl
        · replace d := ti_eqN (a := x7) (b := (0 : Int32)) d rfl rfl
          rcases m_ifE hf with ⟨e, hf⟩ | ⟨e, hf⟩
          · replace e := ti_eqP (a := x4) (b := (0 : Int32)) e rfl rfl
            refine run 1 ?_ hf
            unfold tkA
            by_cases hl : lo = true
            · rw [if_pos hl] at h4; omega
            · have tq : m (x1.toInt / 64 % 64) ≠ 0 ∨ (m (x1.toInt % 64) % 8 = 1 ∧ x1.toInt % 64 % 8 ≠ x1.toInt / 64 % 64 % 8) := q7.1 (by omega)
              rw [if_neg hl, if_pos tq]; rfl
          · replace e := ti_eqN (a := x4) (b := (0 : Int32)) e rfl rfl
            unfold f_fits_115 at hf
            refine run 0 ?_ hf
            unfold tkA
            by_cases hl : lo = true
            · rw [if_pos hl]; rfl
            · rw [if_neg hl] at h4; omega
    have stop : ¬ mayA m x1.toInt x8.toInt → x8.toInt < 4 → f_fits_90 (f_fits_37 n) x1 x2 x3 x4 x6 x7 x8 0 I A = some o → FJ m sd rt ps ch n1 o.2.1 o.2.2 ∧ (o.1.toInt = 0 ∨ o.1.toInt = 1) ∧ (o.1.toInt = 1 ↔ ∃ ap : Int, x8.toInt ≤ ap ∧ ap ≤ 3 ∧ mayA m x1.toInt ap ∧ okA m sd rt ps kw kb lo ch x2.toInt x3.toInt x1.toInt ap) := by
      intro hn hlt hf
      unfold f_fits_90 at hf
      rcases m_ifE hf with ⟨c, hf⟩ | ⟨c, hf⟩
      · exact nxt I A hJ (fun h => hn h.1) hlt hf
      · exact absurd rfl c
    unfold mayA at go stop
    unfold f_fits_37s at hf
    rcases m_ifE hf with ⟨c1, hf⟩ | ⟨c1, hf⟩
    · skip
      replace c1 := ti_leP (a := (4 : Int32)) (b := x8) c1 (show (4 : Int32).toInt = 4 from rfl) rfl
      obtain ⟨-, hf⟩ := m_chkE hf
      cases hf
      try dsimp only
      exact ⟨hJ, Or.inl rfl, fun h => absurd h (by decide), fun ⟨ap, p1, p2, _⟩ => by omega⟩
    · skip
      replace c1 := ti_leN (a := (4 : Int32)) (b := x8) c1 (show (4 : Int32).toInt = 4 from rfl) rfl
      have c9 : x8.toInt < 4 := c1
      obtain ⟨r1, h_r1, hf⟩ := m_clR hf (fun _ h => rro_isCastling h)
      obtain ⟨b1, q1⟩ := p_isCastling hI hA hm hM hx h_r1
      dsimp only at b1 q1
      rcases m_ifE hf with ⟨c2, hf⟩ | ⟨c2, hf⟩
      · skip
        replace c2 := ti_eqP (a := r1) (b := (0 : Int32)) c2 rfl (show (0 : Int32).toInt = 0 from rfl)
        have nc : ¬ (m (x1.toInt % 64) % 8 = 6 ∧ (x1.toInt / 64 % 64 = x1.toInt % 64 + 2 ∨ x1.toInt / 64 % 64 = x1.toInt % 64 - 2)) := fun h => by exact absurd ((q1.2 h).symm.trans c2) (by decide)
        rcases m_ifE hf with ⟨c3, hf⟩ | ⟨c3, hf⟩
        · skip
          replace c3 := ti_eqP (a := x6) (b := (0 : Int32)) c3 rfl (show (0 : Int32).toInt = 0 from rfl)
          unfold f_fits_85 at hf
          exact go (Or.inr ⟨nc, Or.inl (fun h => absurd ((q6.2 h).symm.trans c3) (by decide))⟩) c9 1 rfl hf
        · skip
          replace c3 := ti_eqN (a := x6) (b := (0 : Int32)) c3 rfl (show (0 : Int32).toInt = 0 from rfl)
          rcases m_ifE hf with ⟨c4, hf⟩ | ⟨c4, hf⟩
          · skip
            replace c4 := ti_eqP (a := x8) (b := (1 : Int32)) c4 rfl (show (1 : Int32).toInt = 1 from rfl)
            unfold f_fits_85 at hf
            exact go (Or.inr ⟨nc, Or.inr (Or.inl c4)⟩) c9 1 rfl hf
          · skip
            replace c4 := ti_eqN (a := x8) (b := (1 : Int32)) c4 rfl (show (1 : Int32).toInt = 1 from rfl)
            rcases m_ifE hf with ⟨c5, hf⟩ | ⟨c5, hf⟩
            · skip
              replace c5 := ti_eqP (a := x8) (b := (0 : Int32)) c5 rfl (show (0 : Int32).toInt = 0 from rfl)
              rcases m_ifE hf with ⟨c6, hf⟩ | ⟨c6, hf⟩
              · skip
                replace c6 := ti_eqP (a := x7) (b := (0 : Int32)) c6 rfl (show (0 : Int32).toInt = 0 from rfl)
                unfold f_fits_85 at hf
                exact go (Or.inr ⟨nc, Or.inr (Or.inr ⟨c5, fun h => absurd ((q7.2 h).symm.trans c6) (by decide)⟩)⟩) c9 1 rfl hf
              · skip
                replace c6 := ti_eqN (a := x7) (b := (0 : Int32)) c6 rfl (show (0 : Int32).toInt = 0 from rfl)
                unfold f_fits_89 at hf
                refine stop (fun h => ?_) c9 hf
                rcases h with h | ⟨-, h | h | h⟩
                · exact nc h.1
                · exact h (q6.1 (h6.resolve_left c3))
                · omega
                · exact h.2 (q7.1 (h7.resolve_left c6))
            · skip
              replace c5 := ti_eqN (a := x8) (b := (0 : Int32)) c5 rfl (show (0 : Int32).toInt = 0 from rfl)
              unfold f_fits_89 at hf
              refine stop (fun h => ?_) c9 hf
              rcases h with h | ⟨-, h | h | h⟩
              · exact nc h.1
              · exact h (q6.1 (h6.resolve_left c3))
              · omega
              · omega
      · skip
        replace c2 := ti_eqN (a := r1) (b := (0 : Int32)) c2 rfl (show (0 : Int32).toInt = 0 from rfl)
        have yc := q1.1 (by omega)
        rcases m_ifE hf with ⟨c7, hf⟩ | ⟨c7, hf⟩
        · skip
          replace c7 := ti_eqP (a := x8) (b := (0 : Int32)) c7 rfl (show (0 : Int32).toInt = 0 from rfl)
          exact go (Or.inl ⟨yc, c7⟩) c9 1 rfl hf
        · skip
          replace c7 := ti_eqN (a := x8) (b := (0 : Int32)) c7 rfl (show (0 : Int32).toInt = 0 from rfl)
          refine stop (fun h => ?_) c9 hf
          rcases h with h | h
          · omega
          · exact h.1 yc
theorem p_fits (hJ : FJ m sd rt ps ch n1 I A) (hP : POS m sd rt ps kw kb) (hko : ko = if sd = 0 then kw else kb) (hL : LGx m sd rt ps ko x1.toInt) (h2 : 0 ≤ x2.toInt ∧ x2.toInt ≤ 2000) (h3 : 0 ≤ x3.toInt ∧ x3.toInt ≤ n1) (hn1 : n1 ≤ 2000) (h4 : x4.toInt = if lo = true then 1 else 0) (hf : f_fits x1 x2 x3 x4 I A = some o) : FJ m sd rt ps ch n1 o.2.1 o.2.2 ∧ (o.1.toInt = 0 ∨ o.1.toInt = 1) ∧ (o.1.toInt = 1 ↔ FRs m sd rt ps kw kb lo ch x2.toInt x3.toInt x1.toInt) := by
  have hf : f_fits_0 x1 x2 x3 x4 I A = some o := hf
  obtain ⟨hI, hA, hm, i25, i26, i27, i29, hch, i1⟩ := id hJ
  have hM := hP.2.1
  have hx := hL.1
  have z0 : (0 : Int32).toInt = 0 := rfl
  have fin : ∀ t0 : Int32, (t0.toInt = 0 ∨ t0.toInt = 1) → (t0.toInt = 1 ↔ m (x1.toInt % 64) % 8 = 1) → f_fits_25 x1 x2 x3 x4 t0 I A = some o → FJ m sd rt ps ch n1 o.2.1 o.2.2 ∧ (o.1.toInt = 0 ∨ o.1.toInt = 1) ∧ (o.1.toInt = 1 ↔ FRs m sd rt ps kw kb lo ch x2.toInt x3.toInt x1.toInt) := by
    intro t0 b0 q0 hf
    unfold f_fits_25 at hf
    obtain ⟨r1, h1, hf⟩ := m_clR hf (fun _ h => rro_isTaking h)
    obtain ⟨-, b1, q1⟩ := ok_of (x_isTaking hI hA hx (by rw [hm]; exact hM)) h1
    dsimp only at b1 q1
    rw [hm] at q1
    exact ft_37 hP hko hL h2 h3 hn1 h4 b0 q0 (by omega) q1 mFuel 0 I A (by decide) hJ hf
  unfold f_fits_0 at hf
  obtain ⟨v1, e_v1, hf⟩ := m_bndE hf
  have t_v1 : v1.toInt = x1.toInt % 64 := ti_rem e_v1 rfl (show (64 : Int32).toInt = 64 from rfl) (by omega) (by decide)
  obtain ⟨-, hf⟩ := m_chkE hf
  obtain ⟨v2, e_v2, hf⟩ := m_bndE hf
  have q2 := mR_at e_v2 (by omega) (by omega)
  rw [hm, t_v1] at q2
  have b2 := hM (x1.toInt % 64)
  obtain ⟨r3, h_r3, hf⟩ := m_clR hf (fun _ h => rro_kind h)
  have p_r3 := pc_kind h_r3
  dsimp only at p_r3
  have q3 := p_r3 hI hA (by omega)
  rcases m_ifE hf with ⟨c1, hf⟩ | ⟨c1, hf⟩
  · skip
    replace c1 := ti_eqP (a := r3) (b := (1 : Int32)) c1 rfl (show (1 : Int32).toInt = 1 from rfl)
    exact fin 1 (Or.inr rfl) ⟨fun _ => by omega, fun _ => rfl⟩ hf
  · skip
    replace c1 := ti_eqN (a := r3) (b := (1 : Int32)) c1 rfl (show (1 : Int32).toInt = 1 from rfl)
    exact fin 0 (Or.inl rfl) ⟨fun h => absurd h (by decide), fun h => by omega⟩ hf
theorem lg_key {key : Nat} (hP : POS m sd rt ps kw kb) (hko : ko = if sd = 0 then kw else kb) (hk : key < 32768) (h : LR m sd rt ps ko key) : LGx m sd rt ps ko (mvk key) ∧ mvk key % 64 = ((key / 512 : Nat) : Int) ∧ mvk key / 64 % 64 = ((key / 8 % 64 : Nat) : Int) ∧ mvk key / 4096 = ((key % 8 : Nat) : Int) := by
  have h5 := lr_p5 h
  obtain ⟨g1, g2, g3⟩ := (lr_lc hP hko hk).1 h
  have key3 : ∀ a b c : Nat, a < 64 → b < 64 → ((a : Int) + 64 * (b : Int) + 4096 * (c : Int)) % 64 = (a : Int) ∧ ((a : Int) + 64 * (b : Int) + 4096 * (c : Int)) / 64 % 64 = (b : Int) ∧ ((a : Int) + 64 * (b : Int) + 4096 * (c : Int)) / 4096 = (c : Int) := fun a b c h1 h2 => by omega
  obtain ⟨e1, e2, e3⟩ := key3 (key / 512) (key / 8 % 64) (key % 8) (by omega) (Nat.mod_lt _ (by decide))
  have em : ((key / 512 : Nat) : Int) + 64 * ((key / 8 % 64 : Nat) : Int) + 4096 * ((key % 8 : Nat) : Int) = mvk key := rfl
  rw [em] at e1 e2 e3
  refine ⟨⟨by unfold mvk; omega, ?_⟩, e1, e2, e3⟩
  rw [e1, e2, e3]
  exact ⟨g1, g3, (saf_p hP (by omega) (by omega) g1 g3).2 g2⟩
/-- the reference with its list of moves -/
noncomputable def UJ (m : Int → Int) (sd rt ps ko : Int) (ch : Int → Int) (n1 : Int) (I : Nat → Int32) (A : Nat → Nat → Int32) : Prop := FJ m sd rt ps ch n1 I A ∧ (I 33).toInt = ((cnt (LR m sd rt ps ko) 32768 : Nat) : Int) ∧ LST (fun k => (A 32 k).toInt) (LR m sd rt ps ko) mvk 32768
theorem uj_fits {r : Int32} {I2 : Nat → Int32} {A2 : Nat → Nat → Int32} (h : UJ m sd rt ps ko ch n1 I A) (hJ : FJ m sd rt ps ch n1 I2 A2) (hf : f_fits x1 x2 x3 x4 I A = some (r, I2, A2)) : UJ m sd rt ps ko ch n1 I2 A2 ∧ A2 32 = A 32 := by
  have fw := fw_fits hf
  have e1 : I2 33 = I 33 := fw.1 33 (by decide)
  have e2 : A2 32 = A 32 := fw.2 32 (by decide)
  exact ⟨⟨hJ, by rw [e1]; exact h.2.1, by rw [e2]; exact h.2.2⟩, e2⟩
/-- what the reference answers of signs -/
noncomputable def RSr (m : Int → Int) (sd rt ps kw kb ko : Int) (ch : Int → Int) (a b v : Int) : Prop := (0 < cnt (fun key => LR m sd rt ps ko key ∧ FRs m sd rt ps kw kb false ch a b (mvk key)) 32768 ∧ ((cnt (fun key => LR m sd rt ps ko key ∧ FRs m sd rt ps kw kb false ch a b (mvk key)) 32768 = 1 ∧ ∃ key, key < 32768 ∧ LR m sd rt ps ko key ∧ FRs m sd rt ps kw kb false ch a b (mvk key) ∧ v = mvk key) ∨ (cnt (fun key => LR m sd rt ps ko key ∧ FRs m sd rt ps kw kb false ch a b (mvk key)) 32768 ≠ 1 ∧ v = -1))) ∨ (cnt (fun key => LR m sd rt ps ko key ∧ FRs m sd rt ps kw kb false ch a b (mvk key)) 32768 = 0 ∧ ((cnt (fun key => LR m sd rt ps ko key ∧ FRs m sd rt ps kw kb true ch a b (mvk key)) 32768 = 1 ∧ v = -2) ∨ (cnt (fun key => LR m sd rt ps ko key ∧ FRs m sd rt ps kw kb true ch a b (mvk key)) 32768 ≠ 1 ∧ v = -1)))
theorem un_71 (hP : POS m sd rt ps kw kb) (hko : ko = if sd = 0 then kw else kb) (h1 : 0 ≤ x1.toInt ∧ x1.toInt ≤ 2000) (h2 : 0 ≤ x2.toInt ∧ x2.toInt ≤ n1) (hn1 : n1 ≤ 2000) (hmv : cnt (LR m sd rt ps ko) 32768 ≤ 2048) : ∀ (n : Nat) (x3 x5 : Int32) (I : Nat → Int32) (A : Nat → Nat → Int32), (0 ≤ x5.toInt ∧ x5.toInt ≤ ((cnt (LR m sd rt ps ko) 32768 : Nat) : Int)) → UJ m sd rt ps ko ch n1 I A → x3.toInt = ((cnt (fun k => FRs m sd rt ps kw kb true ch x1.toInt x2.toInt ((A 32 k).toInt)) x5.toInt.toNat : Nat) : Int) → f_understood_71 n x1 x2 x3 x5 I A = some o → FJ m sd rt ps ch n1 o.2.1 o.2.2 ∧ ((cnt (fun key => LR m sd rt ps ko key ∧ FRs m sd rt ps kw kb true ch x1.toInt x2.toInt (mvk key)) 32768 = 1 ∧ o.1.toInt = -2) ∨ (cnt (fun key => LR m sd rt ps ko key ∧ FRs m sd rt ps kw kb true ch x1.toInt x2.toInt (mvk key)) 32768 ≠ 1 ∧ o.1.toInt = -1)) := by
  intro n
  have z0 : (0 : Int32).toInt = 0 := rfl
  induction n with
  | zero => intro x3 x5 I A _ _ _ hf; cases hf
  | succ n ih =>
    intro x3 x5 I A h5 hU h3 hf
    have hf : f_understood_71s (f_understood_71 n) x1 x2 x3 x5 I A = some o := hf
    obtain ⟨hJ, u33, ul⟩ := id hU
    have c5 : cnt (fun k => FRs m sd rt ps kw kb true ch x1.toInt x2.toInt ((A 32 k).toInt)) x5.toInt.toNat ≤ x5.toInt.toNat := cnt_le
    have fin : ((cnt (LR m sd rt ps ko) 32768 : Nat) : Int) ≤ x5.toInt → x3.toInt = ((cnt (fun key => LR m sd rt ps ko key ∧ FRs m sd rt ps kw kb true ch x1.toInt x2.toInt (mvk key)) 32768 : Nat) : Int) := fun h => by
      have e5 : x5.toInt.toNat = cnt (LR m sd rt ps ko) 32768 := by omega
      rw [h3, e5, lst_cnt (F := FRs m sd rt ps kw kb true ch x1.toInt x2.toInt) 32768 ul]
    unfold f_understood_71s at hf
    rcases m_ifE hf with ⟨c1, hf⟩ | ⟨c1, hf⟩
    · skip
      replace c1 := ti_leP (a := (I 33)) (b := x5) c1 rfl rfl
      have e3 := fin (by omega)
      rcases m_ifE hf with ⟨c2, hf⟩ | ⟨c2, hf⟩
      · skip
        replace c2 := ti_eqP (a := x3) (b := (1 : Int32)) c2 rfl (show (1 : Int32).toInt = 1 from rfl)
        unfold f_understood_122 at hf
        cases hf
        try dsimp only
        exact ⟨hJ, Or.inl ⟨by omega, rfl⟩⟩
      · skip
        replace c2 := ti_eqN (a := x3) (b := (1 : Int32)) c2 rfl (show (1 : Int32).toInt = 1 from rfl)
        unfold f_understood_122 at hf
        cases hf
        try dsimp only
        exact ⟨hJ, Or.inr ⟨by omega, rfl⟩⟩
    · skip
      replace c1 := ti_leN (a := (I 33)) (b := x5) c1 rfl rfl
      obtain ⟨key, hk, hq, hqc⟩ := cnt_sur (P := LR m sd rt ps ko) (k := x5.toInt.toNat) (N := 32768) (by omega)
      obtain ⟨lg, -, -, -⟩ := lg_key hP hko hk hq
      obtain ⟨-, hf⟩ := m_chkE hf
      obtain ⟨v1, e_v1, hf⟩ := m_bndE hf
      have q1 : v1.toInt = mvk key := by
        have := ul key hk hq
        rw [hqc] at this
        rw [e_v1]
        exact this
      obtain ⟨⟨r2, Ic2, Ac2⟩, h_r2, hf⟩ := m_clE hf
      dsimp only at hf
      obtain ⟨J2, b2, q2⟩ := p_fits (lo := true) hJ hP hko (by rw [q1]; exact lg) h1 h2 hn1 rfl h_r2
      dsimp only at J2 b2 q2
      obtain ⟨U2, e32⟩ := uj_fits hU J2 h_r2
      have e9 : (A 32 x5.toInt.toNat).toInt = v1.toInt := by rw [e_v1]; rfl
      rcases m_ifE hf with ⟨c3, hf⟩ | ⟨c3, hf⟩
      · skip
        replace c3 := ti_eqP (a := r2) (b := (0 : Int32)) c3 rfl (show (0 : Int32).toInt = 0 from rfl)
        unfold f_understood_104 at hf
        obtain ⟨v9, e9', hf⟩ := m_bndE hf
        have t9 : v9.toInt = x5.toInt + 1 := ti_add e9' rfl (show (1 : Int32).toInt = 1 from rfl) (by omega) (by omega)
        refine ih x3 v9 Ic2 Ac2 (by omega) U2 ?_ hf
        rw [e32, show v9.toInt.toNat = x5.toInt.toNat + 1 by omega, cnt_n (fun h => by rw [e9] at h; have := q2.2 h; omega)]
        exact h3
      · skip
        replace c3 := ti_eqN (a := r2) (b := (0 : Int32)) c3 rfl (show (0 : Int32).toInt = 0 from rfl)
        obtain ⟨v3, e_v3, hf⟩ := m_bndE hf
        have t_v3 : v3.toInt = x3.toInt + 1 := ti_add e_v3 rfl (show (1 : Int32).toInt = 1 from rfl) (by omega) (by omega)
        unfold f_understood_104 at hf
        obtain ⟨v9, e9', hf⟩ := m_bndE hf
        have t9 : v9.toInt = x5.toInt + 1 := ti_add e9' rfl (show (1 : Int32).toInt = 1 from rfl) (by omega) (by omega)
        refine ih v3 v9 Ic2 Ac2 (by omega) U2 ?_ hf
        rw [e32, show v9.toInt.toNat = x5.toInt.toNat + 1 by omega, cnt_y (show FRs m sd rt ps kw kb true ch x1.toInt x2.toInt ((A 32 x5.toInt.toNat).toInt) by rw [e9]; exact q2.1 (by omega)), t_v3, h3]
        omega
theorem un_8 (hP : POS m sd rt ps kw kb) (hko : ko = if sd = 0 then kw else kb) (h1 : 0 ≤ x1.toInt ∧ x1.toInt ≤ 2000) (h2 : 0 ≤ x2.toInt ∧ x2.toInt ≤ n1) (hn1 : n1 ≤ 2000) (hmv : cnt (LR m sd rt ps ko) 32768 ≤ 2048) : ∀ (n : Nat) (x3 x4 x5 : Int32) (I : Nat → Int32) (A : Nat → Nat → Int32), (0 ≤ x5.toInt ∧ x5.toInt ≤ ((cnt (LR m sd rt ps ko) 32768 : Nat) : Int)) → UJ m sd rt ps ko ch n1 I A → x3.toInt = ((cnt (fun k => FRs m sd rt ps kw kb false ch x1.toInt x2.toInt ((A 32 k).toInt)) x5.toInt.toNat : Nat) : Int) → (0 < x3.toInt → ∃ key, key < 32768 ∧ LR m sd rt ps ko key ∧ FRs m sd rt ps kw kb false ch x1.toInt x2.toInt (mvk key) ∧ x4.toInt = mvk key) → f_understood_8 n x1 x2 x3 x4 x5 I A = some o → FJ m sd rt ps ch n1 o.2.1 o.2.2 ∧ RSr m sd rt ps kw kb ko ch x1.toInt x2.toInt o.1.toInt := by
  intro n
  have z0 : (0 : Int32).toInt = 0 := rfl
  induction n with
  | zero => intro x3 x4 x5 I A _ _ _ _ hf; cases hf
  | succ n ih =>
    intro x3 x4 x5 I A h5 hU h3 h4 hf
    have hf : f_understood_8s (f_understood_8 n) x1 x2 x3 x4 x5 I A = some o := hf
    obtain ⟨hJ, u33, ul⟩ := id hU
    have c5 : cnt (fun k => FRs m sd rt ps kw kb false ch x1.toInt x2.toInt ((A 32 k).toInt)) x5.toInt.toNat ≤ x5.toInt.toNat := cnt_le
    have fin : ((cnt (LR m sd rt ps ko) 32768 : Nat) : Int) ≤ x5.toInt → x3.toInt = ((cnt (fun key => LR m sd rt ps ko key ∧ FRs m sd rt ps kw kb false ch x1.toInt x2.toInt (mvk key)) 32768 : Nat) : Int) := fun h => by
      have e5 : x5.toInt.toNat = cnt (LR m sd rt ps ko) 32768 := by omega
      rw [h3, e5, lst_cnt (F := FRs m sd rt ps kw kb false ch x1.toInt x2.toInt) 32768 ul]
    unfold f_understood_8s at hf
    rcases m_ifE hf with ⟨c1, hf⟩ | ⟨c1, hf⟩
    · skip
      replace c1 := ti_leP (a := (I 33)) (b := x5) c1 rfl rfl
      have e3 := fin (by omega)
      rcases m_ifE hf with ⟨c2, hf⟩ | ⟨c2, hf⟩
      · skip
        replace c2 := ti_leP (a := x3) (b := (0 : Int32)) c2 rfl (show (0 : Int32).toInt = 0 from rfl)
        obtain ⟨g1, g2⟩ := un_71 hP hko h1 h2 hn1 hmv mFuel x3 0 I A (by omega) hU (by show x3.toInt = 0; omega) hf
        exact ⟨g1, Or.inr ⟨by omega, g2⟩⟩
      · skip
        replace c2 := ti_leN (a := x3) (b := (0 : Int32)) c2 rfl (show (0 : Int32).toInt = 0 from rfl)
        rcases m_ifE hf with ⟨c3, hf⟩ | ⟨c3, hf⟩
        · skip
          replace c3 := ti_eqP (a := x3) (b := (1 : Int32)) c3 rfl (show (1 : Int32).toInt = 1 from rfl)
          unfold f_understood_67 at hf
          cases hf
          try dsimp only
          exact ⟨hJ, Or.inl ⟨by omega, Or.inl ⟨by omega, h4 (by omega)⟩⟩⟩
        · skip
          replace c3 := ti_eqN (a := x3) (b := (1 : Int32)) c3 rfl (show (1 : Int32).toInt = 1 from rfl)
          unfold f_understood_67 at hf
          cases hf
          try dsimp only
          exact ⟨hJ, Or.inl ⟨by omega, Or.inr ⟨by omega, rfl⟩⟩⟩
    · skip
      replace c1 := ti_leN (a := (I 33)) (b := x5) c1 rfl rfl
      obtain ⟨key, hk, hq, hqc⟩ := cnt_sur (P := LR m sd rt ps ko) (k := x5.toInt.toNat) (N := 32768) (by omega)
      obtain ⟨lg, -, -, -⟩ := lg_key hP hko hk hq
      obtain ⟨-, hf⟩ := m_chkE hf
      obtain ⟨v1, e_v1, hf⟩ := m_bndE hf
      have q1 : v1.toInt = mvk key := by
        have := ul key hk hq
        rw [hqc] at this
        rw [e_v1]
        exact this
      obtain ⟨⟨r2, Ic2, Ac2⟩, h_r2, hf⟩ := m_clE hf
      dsimp only at hf
      obtain ⟨J2, b2, q2⟩ := p_fits (lo := false) hJ hP hko (by rw [q1]; exact lg) h1 h2 hn1 rfl h_r2
      dsimp only at J2 b2 q2
      obtain ⟨U2, e32⟩ := uj_fits hU J2 h_r2
      have e9 : (A 32 x5.toInt.toNat).toInt = v1.toInt := by rw [e_v1]; rfl
      rcases m_ifE hf with ⟨c4, hf⟩ | ⟨c4, hf⟩
      · skip
        replace c4 := ti_eqP (a := r2) (b := (0 : Int32)) c4 rfl (show (0 : Int32).toInt = 0 from rfl)
        unfold f_understood_46 at hf
        obtain ⟨v9, e9', hf⟩ := m_bndE hf
        have t9 : v9.toInt = x5.toInt + 1 := ti_add e9' rfl (show (1 : Int32).toInt = 1 from rfl) (by omega) (by omega)
        refine ih x3 x4 v9 Ic2 Ac2 (by omega) U2 ?_ h4 hf
        rw [e32, show v9.toInt.toNat = x5.toInt.toNat + 1 by omega, cnt_n (fun h => by rw [e9] at h; have := q2.2 h; omega)]
        exact h3
      · skip
        replace c4 := ti_eqN (a := r2) (b := (0 : Int32)) c4 rfl (show (0 : Int32).toInt = 0 from rfl)
        obtain ⟨v3, e_v3, hf⟩ := m_bndE hf
        have t_v3 : v3.toInt = x3.toInt + 1 := ti_add e_v3 rfl (show (1 : Int32).toInt = 1 from rfl) (by omega) (by omega)
        obtain ⟨-, hf⟩ := m_chkE hf
        obtain ⟨v4, e_v4, hf⟩ := m_bndE hf
        have q4 : v4.toInt = mvk key := by
          rw [← q1, e_v4, e32]
          exact e9
        unfold f_understood_46 at hf
        obtain ⟨v9, e9', hf⟩ := m_bndE hf
        have t9 : v9.toInt = x5.toInt + 1 := ti_add e9' rfl (show (1 : Int32).toInt = 1 from rfl) (by omega) (by omega)
        refine ih v3 v4 v9 Ic2 Ac2 (by omega) U2 ?_ (fun _ => ⟨key, hk, hq, by rw [← q1]; exact q2.1 (by omega), q4⟩) hf
        rw [e32, show v9.toInt.toNat = x5.toInt.toNat + 1 by omega, cnt_y (show FRs m sd rt ps kw kb false ch x1.toInt x2.toInt ((A 32 x5.toInt.toNat).toInt) by rw [e9]; exact q2.1 (by omega)), t_v3, h3]
        omega
theorem p_understood (hU : UJ m sd rt ps ko ch n1 I A) (hP : POS m sd rt ps kw kb) (hko : ko = if sd = 0 then kw else kb) (h1 : 0 ≤ x1.toInt ∧ x1.toInt ≤ 2000) (h2 : 0 ≤ x2.toInt ∧ x2.toInt ≤ n1) (hn1 : n1 ≤ 2000) (hf : f_understood x1 x2 I A = some o) : FJ m sd rt ps ch n1 o.2.1 o.2.2 ∧ RSr m sd rt ps kw kb ko ch x1.toInt x2.toInt o.1.toInt := by
  have hmv : cnt (LR m sd rt ps ko) 32768 ≤ 2048 := by
    have := hU.1.1 33
    have e : (tB 33).2 = 2048 := rfl
    have := hU.2.1
    omega
  exact un_8 hP hko h1 h2 hn1 hmv mFuel 0 (-1) 0 I A (by have z : (0 : Int32).toInt = 0 := rfl; omega) hU rfl (fun h => absurd h (by decide)) hf
end FTS
end
section
/-- a word fits a move -/
noncomputable def FW (m : Int → Int) (any : Bool) (w : List Int) (x : Int) : Prop := ∃ ap : Int, 0 ≤ ap ∧ ap ≤ 3 ∧ mayA m x ap ∧ w = spW m x ap (tkA any m x)
section BRG
variable {m : Int → Int} {sd rt ps kw kb ko : Int} {w : List Int} {any : Bool}
theorem txF_l {lo : Bool} {ch : Int → Int} : ∀ {k : Nat} {a : Int}, (txF lo ch a k).length ≤ k
  | 0, a => Nat.le_refl _
  | k + 1, a => by
    by_cases h : lo = true ∧ (ch a = 120 ∨ ch a = 43 ∨ ch a = 35)
    · rw [txF_y h]
      exact Nat.le_succ_of_le txF_l
    · rw [txF_n h]
      exact Nat.succ_le_succ txF_l
theorem txF_f {ch : Int → Int} : ∀ {k : Nat} {a : Int}, (txF false ch a k).length = k ∧ txF false ch a (k + 1) = txF false ch a k ++ [ch (a + k)]
  | 0, a => ⟨rfl, by
    rw [txF_n (fun h => absurd h.1 (by decide)), show a + ((0 : Nat) : Int) = a by omega]
    rfl⟩
  | k + 1, a => by
    obtain ⟨h1, h2⟩ := txF_f (ch := ch) (k := k) (a := a + 1)
    refine ⟨?_, ?_⟩
    · rw [txF_n (fun h => absurd h.1 (by decide)), List.length_cons, h1]
    · rw [txF_n (k := k + 1) (fun h => absurd h.1 (by decide)), h2, txF_n (k := k) (fun h => absurd h.1 (by decide)), show a + 1 + (k : Int) = a + ((k + 1 : Nat) : Int) by omega]
      rfl
theorem txF_x {ch : Int → Int} : ∀ {k : Nat} {a : Int}, ∀ c ∈ txF true ch a k, c ≠ 120
  | 0, a, c, hc => by cases hc
  | k + 1, a, c, hc => by
    by_cases h : (true : Bool) = true ∧ (ch a = 120 ∨ ch a = 43 ∨ ch a = 35)
    · rw [txF_y h] at hc
      exact txF_x c hc
    · rw [txF_n h] at hc
      rcases List.mem_cons.1 hc with e | e
      · rw [e]
        intro e2
        exact h ⟨rfl, Or.inl e2⟩
      · exact txF_x c e
/-- a legal king's move by two is castling -/
theorem lg_cas {x : Int} (hs : sd = 0 ∨ sd = 1) (hL : LGx m sd rt ps ko x) (h : m (x % 64) % 8 = 6 ∧ (x / 64 % 64 = x % 64 + 2 ∨ x / 64 % 64 = x % 64 - 2)) : cas m (x % 64) (x / 64 % 64) ∧ x % 64 = 4 + 56 * sd ∧ x / 4096 = 0 := by
  obtain ⟨hx, hr, hp, -⟩ := hL
  obtain ⟨-, -, h3⟩ := hr
  have h0 : x / 4096 = 0 := by unfold PRo at hp; omega
  rcases h3 with h3 | ⟨-, h3⟩
  · omega
  · rcases h3 with h3 | ⟨h3, h4⟩
    · exfalso
      rcases h3 with ⟨k, -⟩ | ⟨k, -⟩ | ⟨-, g⟩ | ⟨g, -⟩
      · omega
      · omega
      · unfold kin at g
        omega
      · unfold lin at g
        omega
    · exact ⟨h3, h4.1, h0⟩
theorem vld_m {x fl rk tk : Int} (hM : MBd m) (hL : LGx m sd rt ps ko x) (hf : fl = -1 ∨ fl = x % 64 % 8) (hr : rk = -1 ∨ rk = x % 64 / 8) (h1 : m (x % 64) % 8 = 1 → rk = -1) (ht : tk = 0 ∨ tk = 1) : vld (m (x % 64) % 8) fl rk tk (x / 64 % 64) (x / 4096) := by
  obtain ⟨hx, hr2, hp, -⟩ := hL
  have b := hM (x % 64)
  have n0 := hr2.1.1
  unfold PRo at hp
  unfold vld
  omega
theorem prT_7 : prT (strL 7) = -1 := by decide
theorem prT_8 : prT (strL 8) = -1 := by decide
theorem ok_cs (h : PRSok w) : pCs w = 0 := by
  unfold pCs
  rw [if_neg (fun e => h.2.1 (by rw [e]; exact prT_7)), if_neg (fun e => h.2.1 (by rw [e]; exact prT_8))]
theorem pCs_7 : pCs (strL 7) = 2 := if_pos rfl
theorem pCs_8 : pCs (strL 8) = -2 := by
  unfold pCs
  rw [if_neg (fun e => str_78 e.symm), if_pos rfl]
theorem tkA_01 {x : Int} : tkA any m x = 0 ∨ tkA any m x = 1 := by
  unfold tkA
  split
  · exact Or.inl rfl
  · split
    · exact Or.inr rfl
    · exact Or.inl rfl
/-- what a fitting word tells -/
theorem fw_to {x : Int} (hP : POS m sd rt ps kw kb) (hL : LGx m sd rt ps ko x) (h : FW m any w x) : POK w ∧ x / 64 % 64 = toC sd (pCs w) (prT w) ∧ x / 4096 = bcW w ∧ askC m sd (pCs w) (prK w) (prF w) (prR w) (toC sd (pCs w) (prT w)) (bcW w) (if any = true then -1 else prX w) (x % 64) := by
  have hs := hP.1
  have hM := hP.2.1
  obtain ⟨ap, p0, p3, hmay, hw⟩ := h
  obtain ⟨hx, hr, hp, hsf⟩ := id hL
  by_cases hc : m (x % 64) % 8 = 6 ∧ (x / 64 % 64 = x % 64 + 2 ∨ x / 64 % 64 = x % 64 - 2)
  · obtain ⟨c1, c2, c3⟩ := lg_cas hs hL hc
    unfold spW at hw
    rw [if_pos hc] at hw
    by_cases d : x % 64 < x / 64 % 64
    · rw [if_pos d] at hw
      have e1 : pCs w = 2 := by rw [hw]; exact pCs_7
      have e2 : toC sd (pCs w) (prT w) = x / 64 % 64 := by
        unfold toC
        rw [e1, if_neg (by decide)]
        omega
      have e3 : bcW w = 0 := by
        unfold bcW
        rw [e1, if_neg (by decide)]
      rw [e2, e3]
      exact ⟨Or.inl hw, rfl, c3, Or.inl ⟨by rw [e1]; decide, c2, c1⟩⟩
    · rw [if_neg d] at hw
      have e1 : pCs w = -2 := by rw [hw]; exact pCs_8
      have e2 : toC sd (pCs w) (prT w) = x / 64 % 64 := by
        unfold toC
        rw [e1, if_neg (by decide)]
        omega
      have e3 : bcW w = 0 := by
        unfold bcW
        rw [e1, if_neg (by decide)]
      rw [e2, e3]
      exact ⟨Or.inr (Or.inl hw), rfl, c3, Or.inl ⟨by rw [e1]; decide, c2, c1⟩⟩
  · unfold spW at hw
    rw [if_neg hc] at hw
    have hmay2 : m (x % 64) % 8 ≠ 1 ∨ ap = 1 ∨ (ap = 0 ∧ ¬ tkg m (x % 64) (x / 64 % 64)) := hmay.elim (fun g => absurd g.1 hc) (fun g => g.2)
    have hfl : (if ap % 2 = 1 then x % 64 % 8 else -1) = -1 ∨ (if ap % 2 = 1 then x % 64 % 8 else -1) = x % 64 % 8 := by
      split
      · exact Or.inr rfl
      · exact Or.inl rfl
    have hrk : (if 1 < ap then x % 64 / 8 else -1) = -1 ∨ (if 1 < ap then x % 64 / 8 else -1) = x % 64 / 8 := by
      split
      · exact Or.inr rfl
      · exact Or.inl rfl
    have hv := vld_m (tk := tkA any m x) hM hL hfl hrk (fun h => by rw [if_neg (by omega)]) tkA_01
    obtain ⟨g1, g2, g3, g4, g5, g6, g7⟩ := pr_of hv
    rw [← hw] at g1 g2 g3 g4 g5 g6 g7
    have e1 := ok_cs g1
    have e2 : toC sd (pCs w) (prT w) = x / 64 % 64 := by
      unfold toC
      rw [if_pos e1]; exact g6
    have e3 : bcW w = x / 4096 := by
      unfold bcW
      rw [if_pos e1]; exact g7
    rw [e2, e3]
    refine ⟨Or.inr (Or.inr g1), rfl, rfl, Or.inr ⟨e1, ?_, ?_, ?_, ?_, ?_, ?_, ?_⟩⟩
    · have := hr.1.2
      rw [g2]; omega
    · exact fun g => hc ⟨g.1, g.2.2⟩
    · rw [g3]; exact hfl
    · rw [g4]; exact hrk
    · rintro ⟨a1, a2, a3⟩
      rw [g2] at a1
      rw [g3] at a3
      rcases hmay2 with h | h | h
      · exact h a1
      · rw [h, if_pos (by decide)] at a3; omega
      · exact h.2 a2
    · by_cases ha : any = true
      · rw [if_pos ha]; exact Or.inl rfl
      · right
        rw [if_neg ha, g5]
        unfold tkA tkg
        rw [if_neg ha]
        split
        · rename_i t
          exact ⟨fun _ => rfl, fun _ => t⟩
        · rename_i t
          exact ⟨fun h => absurd h t, fun h => absurd h (by decide)⟩
    · unfold PRo at hp
      omega
theorem wA_mem {u : List Int} {i c : Int} (h : wA u i = c) (hc : c ≠ 0) : c ∈ u := by
  by_cases g : 0 ≤ i ∧ i < (u.length : Int)
  · have e : wA u i = u[i.toNat]'(by omega) := by
      have := wA_in (w := u) (i := i.toNat) (by omega)
      rw [← this]
      congr 1
      omega
    rw [← h, e]
    exact List.getElem_mem _
  · rw [wA_out (by omega)] at h
    exact absurd h.symm hc
theorem fw_of {x : Int} (hP : POS m sd rt ps kw kb) (hL : LGx m sd rt ps ko x) (hx9 : any = true → ∀ c ∈ w, c ≠ 120) (hok : POK w) (h1 : x / 64 % 64 = toC sd (pCs w) (prT w)) (h2 : x / 4096 = bcW w) (hq : askC m sd (pCs w) (prK w) (prF w) (prR w) (toC sd (pCs w) (prT w)) (bcW w) (if any = true then -1 else prX w) (x % 64)) : FW m any w x := by
  have hs := hP.1
  have hM := hP.2.1
  obtain ⟨hx, hr, hp, hsf⟩ := id hL
  rw [← h1, ← h2] at hq
  rcases hq with ⟨a1, a2, a3⟩ | ⟨a1, a2, a3, a4, a5, a6, a7, a8⟩
  · have hc : m (x % 64) % 8 = 6 ∧ (x / 64 % 64 = x % 64 + 2 ∨ x / 64 % 64 = x % 64 - 2) := ⟨a3.1, a3.2.2⟩
    refine ⟨0, by decide, by decide, Or.inl ⟨hc, rfl⟩, ?_⟩
    unfold spW
    rw [if_pos hc]
    unfold toC at h1
    rw [if_neg a1] at h1
    rcases hok with h | h | h
    · rw [h, pCs_7] at h1
      rw [if_pos (by omega)]
      exact h
    · rw [h, pCs_8] at h1
      rw [if_neg (by omega)]
      exact h
    · exact absurd (ok_cs h) a1
  · have ok : PRSok w := by
      rcases hok with h | h | h
      · rw [h, pCs_7] at a1; omega
      · rw [h, pCs_8] at a1; omega
      · exact h
    obtain ⟨hv, hw⟩ := pr_to ok
    have e1 : prT w = x / 64 % 64 := by
      unfold toC at h1
      rw [if_pos a1] at h1
      exact h1.symm
    have e2 : prB w = x / 4096 := by
      unfold bcW at h2
      rw [if_pos a1] at h2
      exact h2.symm
    have hMa := hM (x % 64)
    have hk1 := hv.1
    have e3 : m (x % 64) % 8 = prK w := by omega
    have hnc : ¬ (m (x % 64) % 8 = 6 ∧ (x / 64 % 64 = x % 64 + 2 ∨ x / 64 % 64 = x % 64 - 2)) := fun h => a3 (lg_cas hs hL h).1
    have et : tkA any m x = prX w := by
      by_cases ha : any = true
      · have hz : prX w = 0 := by
          unfold prX
          rw [if_neg (fun h => hx9 ha 120 (wA_mem h.2 (by decide)) rfl)]
        rw [hz]
        unfold tkA
        rw [if_pos ha]
      · rw [if_neg ha] at a7
        have px : prX w = 0 ∨ prX w = 1 := (pr_rng w).2.1
        have a7' : tkg m (x % 64) (x / 64 % 64) ↔ prX w = 1 := a7.resolve_left (fun h => by omega)
        unfold tkA
        rw [if_neg ha]
        unfold tkg at a7'
        split
        · rename_i t
          exact (a7'.1 t).symm
        · rename_i t
          rcases px with h | h
          · exact h.symm
          · exact absurd (a7'.2 h) t
    have hfr : ∀ ap : Int, (ap % 2 = 1 ↔ prF w ≠ -1) → (1 < ap ↔ prR w ≠ -1) → w = spW m x ap (tkA any m x) := by
      intro ap b1 b2
      unfold spW
      rw [if_neg hnc, et]
      have f1 : (if ap % 2 = 1 then x % 64 % 8 else -1) = prF w := by
        split
        · rename_i t
          exact (a4.resolve_left (b1.1 t)).symm
        · rename_i t
          by_cases h : prF w = -1
          · exact h.symm
          · exact absurd (b1.2 h) t
      have f2 : (if 1 < ap then x % 64 / 8 else -1) = prR w := by
        split
        · rename_i t
          exact (a5.resolve_left (b2.1 t)).symm
        · rename_i t
          by_cases h : prR w = -1
          · exact h.symm
          · exact absurd (b2.2 h) t
      rw [f1, f2, e3, ← e1, ← e2]
      exact hw
    have hk : prK w = 1 → prR w = -1 := hv.2.2.2.1
    by_cases c1 : prF w = -1
    · by_cases c2 : prR w = -1
      · refine ⟨0, by decide, by decide, Or.inr ⟨hnc, ?_⟩, hfr 0 ⟨fun h => absurd h (by decide), fun h => absurd c1 h⟩ ⟨fun h => absurd h (by decide), fun h => absurd c2 h⟩⟩
        by_cases k1 : m (x % 64) % 8 = 1
        · exact Or.inr (Or.inr ⟨rfl, fun h => a6 ⟨by omega, h, c1⟩⟩)
        · exact Or.inl k1
      · exact ⟨2, by decide, by decide, Or.inr ⟨hnc, Or.inl (fun h => c2 (hk (by omega)))⟩, hfr 2 ⟨fun h => absurd h (by decide), fun h => absurd c1 h⟩ ⟨fun _ => c2, fun _ => by decide⟩⟩
    · by_cases c2 : prR w = -1
      · exact ⟨1, by decide, by decide, Or.inr ⟨hnc, Or.inr (Or.inl rfl)⟩, hfr 1 ⟨fun _ => c1, fun _ => by decide⟩ ⟨fun h => absurd h (by decide), fun h => absurd c2 h⟩⟩
      · exact ⟨3, by decide, by decide, Or.inr ⟨hnc, Or.inl (fun h => c2 (hk (by omega)))⟩, hfr 3 ⟨fun _ => c1, fun _ => by decide⟩ ⟨fun _ => c2, fun _ => by decide⟩⟩
/-- how a fitting word ends, and how long it is -/
theorem fw_len {x : Int} (hP : POS m sd rt ps kw kb) (hL : LGx m sd rt ps ko x) (h : FW m any w x) : 2 ≤ w.length ∧ w.length ≤ 6 ∧ wA w ((w.length : Int) - 1) ≠ 43 ∧ wA w ((w.length : Int) - 1) ≠ 35 := by
  obtain ⟨hok, -⟩ := fw_to hP hL h
  rcases hok with e | e | e
  · rw [e]; decide
  · rw [e]; decide
  · obtain ⟨hv, hw⟩ := pr_to e
    obtain ⟨g1, g2, g3, g4, g5, g6, g7⟩ := hv
    have ht : prT w ≠ -1 := e.2.1
    have hT := sqO_ok ht
    have key : ∀ (A B C D E : List Int) (f r : Int), A.length ≤ 1 → B.length ≤ 1 → C.length ≤ 1 → D.length ≤ 1 → (A.length + C.length = 0 ∧ E.length = 2 ∨ E.length = 0) → (∀ c ∈ E, c ≠ 43 ∧ c ≠ 35) → (49 ≤ r ∧ r ≤ 56) → 2 ≤ (A ++ (B ++ (C ++ (D ++ ([f, r] ++ E))))).length ∧ (A ++ (B ++ (C ++ (D ++ ([f, r] ++ E))))).length ≤ 6 ∧ wA (A ++ (B ++ (C ++ (D ++ ([f, r] ++ E))))) (((A ++ (B ++ (C ++ (D ++ ([f, r] ++ E))))).length : Int) - 1) ≠ 43 ∧ wA (A ++ (B ++ (C ++ (D ++ ([f, r] ++ E))))) (((A ++ (B ++ (C ++ (D ++ ([f, r] ++ E))))).length : Int) - 1) ≠ 35 := by
      intro A B C D E f r hA hB hC hD hE hEc hr
      have hl : (A ++ (B ++ (C ++ (D ++ ([f, r] ++ E))))).length = A.length + (B.length + (C.length + (D.length + (2 + E.length)))) := by
        simp only [List.length_append]
        rfl
      refine ⟨by rw [hl]; omega, by rw [hl]; omega, ?_⟩
      have last : ∀ u : List Int, u ≠ [] → ∀ v : List Int, wA (v ++ u) (((v ++ u).length : Int) - 1) = wA u ((u.length : Int) - 1) := by
        intro u hu v
        have hu0 : 0 < u.length := List.length_pos_iff.2 hu
        have h1 := wA_in (w := v ++ u) (i := (v ++ u).length - 1) (by rw [List.length_append]; omega)
        have h2 := wA_in (w := u) (i := u.length - 1) (by omega)
        rw [show (((v ++ u).length - 1 : Nat) : Int) = ((v ++ u).length : Int) - 1 by rw [List.length_append]; omega] at h1
        rw [show ((u.length - 1 : Nat) : Int) = (u.length : Int) - 1 by omega] at h2
        rw [h1, h2, List.getElem_append_right (by rw [List.length_append]; omega)]
        congr 1
        rw [List.length_append]
        omega
      rw [show A ++ (B ++ (C ++ (D ++ ([f, r] ++ E)))) = (A ++ (B ++ (C ++ (D ++ [f])))) ++ ([r] ++ E) by simp only [List.append_assoc, List.cons_append, List.nil_append]]
      rw [last ([r] ++ E) (by intro h; cases h)]
      have cc : ∀ c ∈ ([r] ++ E), c ≠ 43 ∧ c ≠ 35 := fun c hc => by
        rcases List.mem_cons.1 hc with e | e
        · rw [e]; omega
        · exact hEc c e
      have hin := wA_in (w := [r] ++ E) (i := ([r] ++ E).length - 1) (by show E.length + 1 - 1 < E.length + 1; omega)
      rw [show ((([r] ++ E).length - 1 : Nat) : Int) = (([r] ++ E).length : Int) - 1 by show ((E.length + 1 - 1 : Nat) : Int) = ((E.length + 1 : Nat) : Int) - 1; omega] at hin
      rw [hin]
      exact cc _ (List.getElem_mem _)
    have lb := ltK_b (prB w)
    rw [hw]
    unfold rend
    have q : ∀ (c : Prop) [Decidable c] (u : List Int) (n : Nat), u.length ≤ n → (if c then u else []).length ≤ n := fun c _ u n hu => by
      split
      · exact hu
      · exact Nat.zero_le _
    refine key _ _ _ _ _ _ _ (q _ _ 1 (Nat.le_refl _)) (q _ _ 1 (Nat.le_refl _)) (q _ _ 1 (Nat.le_refl _)) (q _ _ 1 (Nat.le_refl _)) ?_ ?_ (by omega)
    · by_cases c : 2 ≤ prB w
      · left
        have k1 : prK w = 1 := by omega
        rw [if_neg (by omega), if_neg (by have := g4 k1; omega), if_pos c]
        exact ⟨rfl, rfl⟩
      · right
        rw [if_neg c]
        rfl
    · intro c hc
      split at hc
      · rename_i c2
        have : prB w = 2 ∨ prB w = 3 ∨ prB w = 4 ∨ prB w = 5 := by omega
        rcases List.mem_cons.1 hc with e | e
        · rw [e]; decide
        · rw [List.mem_singleton.1 e]
          rcases this with h | h | h | h <;> rw [h] <;> decide
      · cases hc
/-- counting by the square that a move comes from -/
theorem cnt_key {Q : Nat → Prop} {R : Nat → Prop} {t0 b0 : Nat} (ht : t0 < 64) (hb : b0 < 8) (h : ∀ key, key < 32768 → (Q key ↔ key / 8 % 64 = t0 ∧ key % 8 = b0 ∧ R (key / 512))) : ∀ a, a ≤ 64 → cnt Q (512 * a) = cnt R a
  | 0, _ => rfl
  | a + 1, ha => by
    have ih := cnt_key ht hb h a (by omega)
    have e1 : cnt Q (512 * a + (t0 * 8 + b0)) = cnt Q (512 * a) := cnt_gap (by omega) (fun j j1 j2 hq => by
      obtain ⟨h1, h2, -⟩ := (h j (by omega)).1 hq
      omega)
    have k1 : (512 * a + (t0 * 8 + b0)) / 8 % 64 = t0 := by omega
    have k2 : (512 * a + (t0 * 8 + b0)) % 8 = b0 := by omega
    have k3 : (512 * a + (t0 * 8 + b0)) / 512 = a := by omega
    have e2 : cnt Q (512 * (a + 1)) = cnt Q (512 * a + (t0 * 8 + b0) + 1) := cnt_gap (by omega) (fun j j1 j2 hq => by
      obtain ⟨h1, h2, -⟩ := (h j (by omega)).1 hq
      omega)
    have hk := h (512 * a + (t0 * 8 + b0)) (by omega)
    rw [k3] at hk
    by_cases hr : R a
    · rw [e2, cnt_y (hk.2 ⟨k1, k2, hr⟩), cnt_y hr, e1, ih]
    · rw [e2, cnt_n (fun hq => hr (hk.1 hq).2.2), cnt_n hr, e1, ih]
theorem aq_lg {a : Nat} (hP : POS m sd rt ps kw kb) (hok : POK w) (ha : a < 64) (hq : AQw m sd rt ps ko any w a) : LGx m sd rt ps ko (mvW sd w a) := by
  obtain ⟨b1, b2, b3, b4, b5⟩ := mvW_b (a := a) hP.1 hok ha
  obtain ⟨h1, h2, h3⟩ := hq
  refine ⟨⟨b1, b2⟩, ?_⟩
  rw [b3, b4, b5]
  refine ⟨h2, ?_, h3⟩
  have hbc := bc_rng hok
  rcases h1 with ⟨c1, c2, c3⟩ | ⟨c1, -, -, -, -, -, -, c8⟩
  · left
    refine ⟨?_, fun h => ?_⟩
    · unfold bcW
      rw [if_neg c1]
    · have := c3.1
      omega
  · have hb5 : bcW w = 0 ∨ (2 ≤ bcW w ∧ bcW w ≤ 5) := by
      have ok : PRSok w := by
        rcases hok with h | h | h
        · rw [h, pCs_7] at c1; omega
        · rw [h, pCs_8] at c1; omega
        · exact h
      have hv := (pr_to ok).1.2.2.2.2.2.2
      unfold bcW
      rw [if_pos c1]
      omega
    by_cases e : bcW w = 0
    · exact Or.inl ⟨e, fun h => (c8.1 h) e⟩
    · have := c8.2 e
      exact Or.inr ⟨by omega, by omega, this.1, this.2⟩
theorem lg_lr {x : Int} (hP : POS m sd rt ps kw kb) (hko : ko = if sd = 0 then kw else kb) (hL : LGx m sd rt ps ko x) : LR m sd rt ps ko (kOf x) ∧ kOf x < 32768 ∧ mvk (kOf x) = x := by
  obtain ⟨hx, hr, hp, hs⟩ := hL
  obtain ⟨k1, k2, k3, k4, k5⟩ := kOf_e hx
  refine ⟨(lr_lc hP hko k1).2 ?_, k1, k5⟩
  rw [k2, k3, k4]
  exact ⟨hr, (saf_p hP (by omega) (by omega) hr hp).1 hs, hp⟩
/-- as many legal moves fit a word as the class gathers -/
theorem cnt_word {F : Int → Prop} (hP : POS m sd rt ps kw kb) (hko : ko = if sd = 0 then kw else kb) (hx9 : any = true → ∀ c ∈ w, c ≠ 120) : (POK w → cnt (fun key => LR m sd rt ps ko key ∧ (FW m any w (mvk key) ∧ F (mvk key))) 32768 = cnt (fun a => AQw m sd rt ps ko any w a ∧ F (mvW sd w a)) 64) ∧ (¬ POK w → cnt (fun key => LR m sd rt ps ko key ∧ (FW m any w (mvk key) ∧ F (mvk key))) 32768 = 0) := by
  constructor
  · intro hok
    have hb := bc_rng hok
    obtain ⟨-, -, -, b4, -⟩ := mvW_b (a := 0) hP.1 hok (by decide)
    have ht : 0 ≤ toC sd (pCs w) (prT w) ∧ toC sd (pCs w) (prT w) ≤ 63 := by omega
    refine cnt_key (t0 := (toC sd (pCs w) (prT w)).toNat) (b0 := (bcW w).toNat) (by omega) (by omega) (fun key hk => ?_) 64 (Nat.le_refl _)
    constructor
    · rintro ⟨h1, h2, h3⟩
      obtain ⟨lg, e1, e2, e3⟩ := lg_key hP hko hk h1
      obtain ⟨-, g2, g3, g4⟩ := fw_to hP lg h2
      have ea : mvk key = mvW sd w (key / 512) := by
        unfold mvW mvA
        have : mvk key = mvk key % 64 + 64 * (mvk key / 64 % 64) + 4096 * (mvk key / 4096) := by
          have := lg.1
          omega
        rw [this, e1, g2, g3]
      refine ⟨by omega, by omega, ⟨by rw [← e1]; exact g4, ?_, ?_⟩, by rw [← ea]; exact h3⟩
      · rw [← e1, ← g2]; exact lg.2.1
      · rw [← e1, ← g2, ← g3]; exact lg.2.2.2
    · rintro ⟨h1, h2, h3, h4⟩
      have lg := aq_lg hP hok (by omega) h3
      obtain ⟨b1, b2, b3, b4', b5⟩ := mvW_b (a := key / 512) hP.1 hok (by omega)
      obtain ⟨l1, l2, l3⟩ := lg_lr hP hko lg
      have ek : kOf (mvW sd w (key / 512)) = key := by
        unfold kOf
        rw [b3, b4', b5, Int.toNat_natCast]
        omega
      rw [ek] at l1 l3
      rw [l3]
      refine ⟨l1, fw_of hP lg hx9 hok b4' b5 ?_, h4⟩
      rw [b3]
      exact h3.1
  · intro hno
    refine cnt_0 (fun key hk h => ?_)
    obtain ⟨lg, -⟩ := lg_key hP hko hk h.1
    exact hno (fw_to hP lg h.2.1).1
/-- signs with their check, told by their first eight characters -/
theorem fr_ck {ch : Int → Int} {a b x : Int} (hP : POS m sd rt ps kw kb) (hL : LGx m sd rt ps ko x) (hz : ∀ i, a ≤ i → i < b → ch i ≠ 0) : FRs m sd rt ps kw kb false ch a b x ↔ FW m false (ckW ((txF false ch a (b - a).toNat).take 8)) x ∧ F1 m sd rt ps kw kb (ckO ((txF false ch a (b - a).toNat).take 8)) x := by
  have split1 : FRs m sd rt ps kw kb false ch a b x ↔ FW m false (txF false ch a (b - a).toNat) x ∨ (a < b ∧ (ch (b - 1) = 43 ∨ ch (b - 1) = 35) ∧ FW m false (txF false ch a (b - 1 - a).toNat) x ∧ csF m sd rt ps kw kb x (ch (b - 1))) := by
    constructor
    · rintro ⟨ap, p0, p3, p1, h | h⟩
      · exact Or.inl ⟨ap, p0, p3, p1, h⟩
      · exact Or.inr ⟨h.2.1, h.2.2.1, ⟨ap, p0, p3, p1, h.2.2.2.1⟩, h.2.2.2.2⟩
    · rintro (⟨ap, p0, p3, p1, h⟩ | ⟨h1, h2, ⟨ap, p0, p3, p1, h⟩, h4⟩)
      · exact ⟨ap, p0, p3, p1, Or.inl h⟩
      · exact ⟨ap, p0, p3, p1, Or.inr ⟨rfl, h1, h2, h, h4⟩⟩
  rw [split1]
  obtain ⟨n, hn⟩ : ∃ n, n = (b - a).toNat := ⟨_, rfl⟩
  rw [← hn]
  have hl : (txF false ch a n).length = n := txF_f.1
  by_cases h8 : n ≤ 8
  · have et : (txF false ch a n).take 8 = txF false ch a n := List.take_of_length_le (by omega)
    rw [et]
    by_cases hab : a < b
    · obtain ⟨k, hk⟩ : ∃ k, n = k + 1 := ⟨n - 1, by omega⟩
      have ek : (b - 1 - a).toNat = k := by omega
      have hv := (txF_f (ch := ch) (k := k) (a := a)).2
      have hlk : (txF false ch a k).length = k := txF_f.1
      have elast : wA (txF false ch a n) (((txF false ch a n).length : Int) - 1) = ch (b - 1) := by
        rw [hl, hk, hv, wA_app, if_pos (by rw [hlk]; omega)]
        congr 1
        omega
      rw [ek]
      by_cases hc : ch (b - 1) = 43 ∨ ch (b - 1) = 35
      · have eO : ckO (txF false ch a n) = ch (b - 1) := by
          unfold ckO
          rw [elast, if_pos hc]
        have eW : ckW (txF false ch a n) = txF false ch a k := by
          unfold ckW
          rw [elast, if_pos hc, hl, hk, hv]
          exact List.take_left' (by rw [hlk]; omega)
        rw [eO, eW]
        constructor
        · rintro (h | ⟨-, -, h1, h2⟩)
          · have := (fw_len hP hL h).2.2
            rw [elast] at this
            omega
          · exact ⟨h1, Or.inr h2⟩
        · rintro ⟨h1, h2 | h2⟩
          · omega
          · exact Or.inr ⟨hab, hc, h1, h2⟩
      · have eO : ckO (txF false ch a n) = 0 := by
          unfold ckO
          rw [elast, if_neg hc]
        have eW : ckW (txF false ch a n) = txF false ch a n := by
          unfold ckW
          rw [elast, if_neg hc]
        rw [eO, eW]
        exact ⟨fun h => ⟨h.elim id (fun g => absurd g.2.1 hc), Or.inl rfl⟩, fun h => Or.inl h.1⟩
    · have e0 : n = 0 := by omega
      rw [e0]
      have eW : ckW (txF false ch a 0) = [] := rfl
      rw [eW]
      constructor
      · rintro (h | h)
        · have : 2 ≤ ([] : List Int).length := (fw_len hP hL h).1
          exact absurd this (by decide)
        · exact absurd h.1 hab
      · rintro ⟨h, -⟩
        have : 2 ≤ ([] : List Int).length := (fw_len hP hL h).1
        exact absurd this (by decide)
  · have hl8 : ((txF false ch a n).take 8).length = 8 := by rw [List.length_take]; omega
    have hw7 : 7 ≤ (ckW ((txF false ch a n).take 8)).length := by
      unfold ckW
      split
      · rw [List.length_take, hl8]; decide
      · rw [hl8]; decide
    constructor
    · rintro (h | ⟨h1, -, h, -⟩)
      · have := (fw_len hP hL h).2.1
        omega
      · have := (fw_len hP hL h).2.1
        have hl2 : (txF false ch a (b - 1 - a).toNat).length = (b - 1 - a).toNat := txF_f.1
        omega
    · rintro ⟨h, -⟩
      have := (fw_len hP hL h).2.1
      omega
theorem fr_lo {ch : Int → Int} {a b x : Int} (hP : POS m sd rt ps kw kb) (hL : LGx m sd rt ps ko x) : FRs m sd rt ps kw kb true ch a b x ↔ FW m true ((txF true ch a (b - a).toNat).take 8) x := by
  have split1 : FRs m sd rt ps kw kb true ch a b x ↔ FW m true (txF true ch a (b - a).toNat) x := by
    constructor
    · rintro ⟨ap, p0, p3, p1, h | h⟩
      · exact ⟨ap, p0, p3, p1, h⟩
      · exact absurd h.1 (by decide)
    · rintro ⟨ap, p0, p3, p1, h⟩
      exact ⟨ap, p0, p3, p1, Or.inl h⟩
  rw [split1]
  by_cases h8 : (txF true ch a (b - a).toNat).length ≤ 8
  · rw [List.take_of_length_le h8]
  · constructor
    · intro h
      have := (fw_len hP hL h).2.1
      omega
    · intro h
      have := (fw_len hP hL h).2.1
      rw [List.length_take] at this
      omega
/-- both answer the same of signs -/
theorem rs_eq {ch : Int → Int} {a b v v2 : Int} (hP : POS m sd rt ps kw kb) (hko : ko = if sd = 0 then kw else kb) (hz : ∀ i, a ≤ i → i < b → ch i ≠ 0) (hc : RSc m sd rt ps kw kb ko ((txF false ch a (b - a).toNat).take 8) ((txF true ch a (b - a).toNat).take 8) v) (hr : RSr m sd rt ps kw kb ko ch a b v2) : v = v2 ∧ (0 ≤ v → LGx m sd rt ps ko v) := by
  unfold RSc at hc
  unfold RSr at hr
  generalize hu : (txF false ch a (b - a).toNat).take 8 = u at hc
  generalize hw : (txF true ch a (b - a).toNat).take 8 = w2 at hc
  have e1 : cnt (fun key => LR m sd rt ps ko key ∧ FRs m sd rt ps kw kb false ch a b (mvk key)) 32768 = cnt (fun key => LR m sd rt ps ko key ∧ (FW m false (ckW u) (mvk key) ∧ F1 m sd rt ps kw kb (ckO u) (mvk key))) 32768 := cnt_c (fun key hk => by
    refine and_congr_right (fun hl => ?_)
    have := fr_ck (ch := ch) (a := a) (b := b) hP (lg_key hP hko hk hl).1 hz
    rw [hu] at this
    exact this)
  have e2 : cnt (fun key => LR m sd rt ps ko key ∧ FRs m sd rt ps kw kb true ch a b (mvk key)) 32768 = cnt (fun key => LR m sd rt ps ko key ∧ (FW m true w2 (mvk key) ∧ True)) 32768 := cnt_c (fun key hk => by
    refine and_congr_right (fun hl => ?_)
    have := fr_lo (ch := ch) (a := a) (b := b) hP (lg_key hP hko hk hl).1
    rw [hw] at this
    exact this.trans ⟨fun h => ⟨h, trivial⟩, fun h => h.1⟩)
  have hx9 : ∀ c ∈ w2, c ≠ 120 := fun c hc => by
    rw [← hw] at hc
    exact txF_x c (List.mem_of_mem_take hc)
  obtain ⟨c1, c2⟩ := cnt_word (any := false) (w := ckW u) (F := F1 m sd rt ps kw kb (ckO u)) hP hko (fun h => absurd h (by decide))
  obtain ⟨d1, d2⟩ := cnt_word (any := true) (w := w2) (F := fun _ => True) hP hko (fun _ => hx9)
  have e3 : POK w2 → cnt (fun key => LR m sd rt ps ko key ∧ (FW m true w2 (mvk key) ∧ True)) 32768 = cnt (AQw m sd rt ps ko true w2) 64 := fun h => by
    rw [d1 h]
    exact cnt_c (fun j _ => ⟨fun g => g.1, fun g => ⟨g, trivial⟩⟩)
  rw [e1, e2] at hr
  rcases hc with ⟨ok, n1, hc⟩ | ⟨nn, hc⟩
  · have eN := c1 ok
    rw [eN] at hr
    have eN' : cnt (fun a => AQw m sd rt ps ko false (ckW u) a ∧ F1 m sd rt ps kw kb (ckO u) (mvW sd (ckW u) a)) 64 = NW1 m sd rt ps kw kb ko (ckW u) (ckO u) := rfl
    rw [eN'] at hr
    rcases hr with ⟨-, hr⟩ | ⟨hr, -⟩
    · rcases hc with ⟨k1, q, hq, aq, f1, ev⟩ | ⟨k1, ev⟩
      · rcases hr with ⟨-, key, hk, lr, fr, ev2⟩ | ⟨k2, -⟩
        · have lg := aq_lg hP ok hq aq
          obtain ⟨l1, l2, l3⟩ := lg_lr hP hko lg
          obtain ⟨b1, b2, b3, b4, b5⟩ := mvW_b (a := q) hP.1 ok hq
          have fq : FW m false (ckW u) (mvW sd (ckW u) q) := fw_of hP lg (fun h => absurd h (by decide)) ok b4 b5 (by rw [b3]; exact aq.1)
          have p1 : (fun key => LR m sd rt ps ko key ∧ (FW m false (ckW u) (mvk key) ∧ F1 m sd rt ps kw kb (ckO u) (mvk key))) (kOf (mvW sd (ckW u) q)) := by
            show LR m sd rt ps ko _ ∧ _
            rw [l3]
            exact ⟨l1, fq, f1⟩
          have p2 : (fun key => LR m sd rt ps ko key ∧ (FW m false (ckW u) (mvk key) ∧ F1 m sd rt ps kw kb (ckO u) (mvk key))) key := by
            have := fr_ck (ch := ch) (a := a) (b := b) hP (lg_key hP hko hk lr).1 hz
            rw [hu] at this
            exact ⟨lr, this.1 fr⟩
          have ekk := cnt_1 (N := 32768) (by rw [eN, eN']; exact k1) p1 p2 l2 hk
          refine ⟨?_, fun _ => by rw [ev]; exact lg⟩
          rw [ev, ev2, ← ekk, l3]
        · exact absurd k1 k2
      · rcases hr with ⟨k2, -⟩ | ⟨-, ev2⟩
        · exact absurd k2 k1
        · exact ⟨by omega, fun h => by omega⟩
    · omega
  · have eN : cnt (fun key => LR m sd rt ps ko key ∧ (FW m false (ckW u) (mvk key) ∧ F1 m sd rt ps kw kb (ckO u) (mvk key))) 32768 = 0 := by
      by_cases ok : POK (ckW u)
      · rw [c1 ok]
        have : ¬ 0 < NW1 m sd rt ps kw kb ko (ckW u) (ckO u) := fun h => nn ⟨ok, h⟩
        have e9 : NW1 m sd rt ps kw kb ko (ckW u) (ckO u) = 0 := by omega
        exact e9
      · exact c2 ok
    rw [eN] at hr
    rcases hr with ⟨hr, -⟩ | ⟨-, hr⟩
    · omega
    · rcases hc with ⟨ok2, k1, ev⟩ | ⟨nk, ev⟩
      · rw [e3 ok2] at hr
        rcases hr with ⟨-, ev2⟩ | ⟨k2, -⟩
        · exact ⟨by omega, fun h => by omega⟩
        · exact absurd k1 k2
      · rcases hr with ⟨k2, ev2⟩ | ⟨-, ev2⟩
        · exfalso
          by_cases ok2 : POK w2
          · rw [e3 ok2] at k2
            exact nk ⟨ok2, k2⟩
          · rw [d2 ok2] at k2
            omega
        · exact ⟨by omega, fun h => by omega⟩
end BRG
end
