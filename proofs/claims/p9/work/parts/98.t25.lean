def tkA (lo : Bool) (m : Int → Int) (x : Int) : Int := if lo = true then 0 else if m (x / 64 % 64) ≠ 0 ∨ (m (x % 64) % 8 = 1 ∧ x % 64 % 8 ≠ x / 64 % 64 % 8) then 1 else 0
/-- which ways of telling a move apart may be used -/
def mayA (m : Int → Int) (x ap : Int) : Prop := ((m (x % 64) % 8 = 6 ∧ (x / 64 % 64 = x % 64 + 2 ∨ x / 64 % 64 = x % 64 - 2)) ∧ ap = 0) ∨ (¬ (m (x % 64) % 8 = 6 ∧ (x / 64 % 64 = x % 64 + 2 ∨ x / 64 % 64 = x % 64 - 2)) ∧ (m (x % 64) % 8 ≠ 1 ∨ ap = 1 ∨ (ap = 0 ∧ ¬ tkg m (x % 64) (x / 64 % 64))))
def okA (m : Int → Int) (sd rt ps kw kb : Int) (lo : Bool) (ch : Int → Int) (a b x ap : Int) : Prop := txF lo ch a (b - a).toNat = spW m x ap (tkA lo m x) ∨ (lo = false ∧ a < b ∧ (ch (b - 1) = 43 ∨ ch (b - 1) = 35) ∧ txF false ch a (b - 1 - a).toNat = spW m x ap (tkA lo m x) ∧ csF m sd rt ps kw kb x (ch (b - 1)))
/-- a move fits a piece of text, by the reference -/
def FRs (m : Int → Int) (sd rt ps kw kb : Int) (lo : Bool) (ch : Int → Int) (a b x : Int) : Prop := ∃ ap : Int, 0 ≤ ap ∧ ap ≤ 3 ∧ mayA m x ap ∧ okA m sd rt ps kw kb lo ch a b x ap
/-- the reference while signs are read -/
def FJ (m : Int → Int) (sd rt ps : Int) (ch : Int → Int) (n1 : Int) (I : Nat → Int32) (A : Nat → Nat → Int32) : Prop := TJ I ∧ TK A ∧ mR A = m ∧ (I 25).toInt = sd ∧ (I 26).toInt = rt ∧ (I 27).toInt = ps ∧ (I 29).toInt ≤ 1999 ∧ txR I A = ch ∧ (I 1).toInt = n1
section FTS
variable {m : Int → Int} {sd rt ps kw kb ko : Int} {I : Nat → Int32} {A : Nat → Nat → Int32} {o : Int32 × MS} {x1 x2 x3 x4 x6 x7 : Int32} {ch : Int → Int} {n1 : Int} {lo : Bool}
theorem spW_l {m : Int → Int} {x ap tk : Int} : (spW m x ap tk).length ≤ 8 := by
  unfold spW
  split
  · split <;> decide
  · unfold rend
    simp only [List.length_append]
    have h : ∀ (c : Prop) [Decidable c] (u : List Int) (n : Nat), u.length ≤ n → (if c then u else []).length ≤ n := fun c _ u n hu => by
      split
      · exact hu
      · exact Nat.zero_le _
    have h1 := h (2 ≤ m (x % 64) % 8) [ltK (m (x % 64) % 8)] 1 (Nat.le_refl _)
    have h2 := h (0 ≤ (if ap % 2 = 1 then x % 64 % 8 else -1)) [97 + (if ap % 2 = 1 then x % 64 % 8 else -1)] 1 (Nat.le_refl _)
    have h3 := h (0 ≤ (if 1 < ap then x % 64 / 8 else -1)) [49 + (if 1 < ap then x % 64 / 8 else -1)] 1 (Nat.le_refl _)
    have h4 := h (tk = 1) [120] 1 (Nat.le_refl _)
    have h5 := h (2 ≤ x / 4096) [61, ltK (x / 4096)] 2 (Nat.le_refl _)
    have h6 : ([97 + x / 64 % 64 % 8, 49 + x / 64 % 64 / 8] : List Int).length = 2 := rfl
    omega
theorem tx_fr {I2 : Nat → Int32} {A2 : Nat → Nat → Int32} (h1 : I2 1 = I 1) (h2 : A2 2 = A 2) : txR I2 A2 = txR I A := by
  funext i
  unfold txR
  rw [h1, h2]
theorem fj_sp {r : Int32} {I2 : Nat → Int32} {A2 : Nat → Nat → Int32} (hJ : FJ m sd rt ps ch n1 I A) (hx : 0 ≤ x1.toInt ∧ x1.toInt ≤ 24575) (h2 : 0 ≤ x2.toInt ∧ x2.toInt ≤ 3) (h3 : x3.toInt = 0 ∨ x3.toInt = 1) (hf : f_spellMove x1 x2 x3 I A = some (r, I2, A2)) : FJ m sd rt ps ch n1 I2 A2 := by
  obtain ⟨hI, hA, hm, i25, i26, i27, i29, hch, i1⟩ := hJ
  obtain ⟨a1, a2, -⟩ := ok_of (t_spellMove hI hA hx h2 (by omega)) hf
  have fw := fw_spellMove hf
  have fI : ∀ j, j ≠ 36 → I2 j = I j := fun j hj => fw.1 j (by simpa using hj)
  have fA : ∀ j, j ≠ 35 → A2 j = A j := fun j hj => fw.2 j (by simpa using hj)
  exact ⟨a1, a2, (mR_fr (fA 24 (by decide))).trans hm, by rw [fI 25 (by decide)]; exact i25, by rw [fI 26 (by decide)]; exact i26, by rw [fI 27 (by decide)]; exact i27, by rw [fI 29 (by decide)]; exact i29, (tx_fr (fI 1 (by decide)) (fA 2 (by decide))).trans hch, by rw [fI 1 (by decide)]; exact i1⟩
theorem fj_nA (hJ : FJ m sd rt ps ch n1 I A) : FJ m sd rt ps ch n1 I (nA I A) := by
  obtain ⟨hI, hA, hm, i25, i26, i27, i29, hch, i1⟩ := hJ
  exact ⟨hI, tk_nA hI hA, by rw [mR_nA]; exact hm, i25, i26, i27, i29, (tx_fr rfl (nA_o (by decide) (by decide))).trans hch, i1⟩
theorem tkA_b : tkA lo m x1.toInt = 0 ∨ tkA lo m x1.toInt = 1 := by
  unfold tkA
  split
  · exact Or.inl rfl
  · split
    · exact Or.inr rfl
    · exact Or.inl rfl
theorem ft_116 {self37 : Int32 → Int32 → Int32 → Int32 → Int32 → Int32 → Int32 → (Nat → Int32) → (Nat → Nat → Int32) → Option (Int32 × MS)} {x8 t0 : Int32} {G : Prop} (hJ : FJ m sd rt ps ch n1 I A) (hP : POS m sd rt ps kw kb) (hko : ko = if sd = 0 then kw else kb) (hL : LGx m sd rt ps ko x1.toInt) (h2 : 0 ≤ x2.toInt ∧ x2.toInt ≤ 2000) (h3 : 0 ≤ x3.toInt ∧ x3.toInt ≤ n1) (hn1 : n1 ≤ 2000) (h4 : x4.toInt = if lo = true then 1 else 0) (h8 : 0 ≤ x8.toInt ∧ x8.toInt ≤ 3) (ht : t0.toInt = tkA lo m x1.toInt) (H1 : ∀ I A, FJ m sd rt ps ch n1 I A → okA m sd rt ps kw kb lo ch x2.toInt x3.toInt x1.toInt x8.toInt → o = (1, (I, A)) → G) (H0 : ∀ I A, FJ m sd rt ps ch n1 I A → ¬ okA m sd rt ps kw kb lo ch x2.toInt x3.toInt x1.toInt x8.toInt → f_fits_198 self37 x1 x2 x3 x4 x6 x7 x8 I A = some o → G) (hf : f_fits_116 self37 x1 x2 x3 x4 x6 x7 x8 t0 x8 x1 I A = some o) : G := by
  obtain ⟨hI, hA, hm, i25, i26, i27, i29, hch, i1⟩ := id hJ
  have hM := hP.2.1
  obtain ⟨hx, hr, hp, hs⟩ := id hL
  have hpr : x1.toInt / 4096 = 0 ∨ (2 ≤ x1.toInt / 4096 ∧ x1.toInt / 4096 ≤ 5) := by unfold PRo at hp; omega
  have tb := tkA_b (lo := lo) (m := m) (x1 := x1)
  have z0 : (0 : Int32).toInt = 0 := rfl
  have chb : x3.toInt - 1 < n1 := by omega
  unfold f_fits_116 at hf
  obtain ⟨⟨r1, Ic1, Ac1⟩, h_r1, hf⟩ := m_clE hf
  dsimp only at hf
  have S1 := p_spellMove hI hA hm hM hx hr.1.1 hpr h8 (by omega) h_r1
  dsimp only at S1
  rw [ht] at S1
  have J1 := fj_sp hJ hx h8 (by omega) h_r1
  obtain ⟨hI1, hA1, hm1, j25, j26, j27, j29, hch1, j1⟩ := id J1
  have hl8 := spW_l (m := m) (x := x1.toInt) (ap := x8.toInt) (tk := tkA lo m x1.toInt)
  obtain ⟨r2, h_r2, hf⟩ := m_clR hf (fun _ h => rro_isSpelled h)
  obtain ⟨b2, q2⟩ := p_isSpelled S1 (by omega) hch1 h2 (by omega) (by omega) h4 h_r2
  dsimp only at b2 q2
  have no : ¬ (lo = false ∧ x2.toInt < x3.toInt ∧ (ch (x3.toInt - 1) = 43 ∨ ch (x3.toInt - 1) = 35)) → r2.toInt = 0 → ¬ okA m sd rt ps kw kb lo ch x2.toInt x3.toInt x1.toInt x8.toInt := fun hn h0 h => by
    rcases h with h | h
    · have := q2.2 h; omega
    · exact hn ⟨h.1, h.2.1, h.2.2.1⟩
  have chk : (ch (x3.toInt - 1) = 43 ∨ ch (x3.toInt - 1) = 35) → x2.toInt < x3.toInt → lo = false → r2.toInt = 0 → f_fits_168 self37 x1 x2 x3 x4 x6 x7 x8 Ic1 Ac1 = some o → G := by
    intro hc hlt hlo h0 hf
    unfold f_fits_168 at hf
    obtain ⟨v1, e1, hf⟩ := m_bndE hf
    have t1 : v1.toInt = x3.toInt - 1 := ti_sub e1 rfl (show (1 : Int32).toInt = 1 from rfl) (by omega) (by omega)
    obtain ⟨r3, h3', hf⟩ := m_clR hf (fun _ h => rro_isSpelled h)
    obtain ⟨b3, q3⟩ := p_isSpelled (lo := false) S1 (by omega) hch1 h2 (by omega) (by omega) rfl h3'
    dsimp only at b3 q3
    rw [t1, show x3.toInt - 1 - x2.toInt = x3.toInt - 1 - x2.toInt from rfl] at q3
    rcases m_ifE hf with ⟨c5, hf⟩ | ⟨c5, hf⟩
    · replace c5 := ti_eqP (a := r3) (b := (0 : Int32)) c5 rfl rfl
      refine H0 Ic1 Ac1 J1 (fun h => ?_) hf
      rcases h with h | h
      · have := q2.2 h; omega
      · have := q3.2 h.2.2.2.1; omega
    · replace c5 := ti_eqN (a := r3) (b := (0 : Int32)) c5 rfl rfl
      obtain ⟨⟨r6, I6, A6⟩, h6, hf⟩ := m_clE hf
      dsimp only at hf
      obtain ⟨e6, q6⟩ := p_behind hI1 hA1 hm1 j25 j26 j27 j29 hP hko hL h6
      dsimp only at e6 q6
      have eI : I6 = Ic1 := congrArg Prod.fst e6
      have eA : A6 = nA Ic1 Ac1 := congrArg Prod.snd e6
      obtain ⟨v4, e4, hf⟩ := m_bndE hf
      have t4 : v4.toInt = x3.toInt - 1 := ti_sub e4 rfl (show (1 : Int32).toInt = 1 from rfl) (by omega) (by omega)
      obtain ⟨-, hf⟩ := m_chkE hf
      obtain ⟨v5, e5, hf⟩ := m_bndE hf
      have t5 : v5.toInt = ch (x3.toInt - 1) := by
        rw [← hch1, ← t4]
        refine tx_at ?_ (by omega) (by omega)
        rw [e5, eA, nA_o (by decide) (by decide)]
      have J6 : FJ m sd rt ps ch n1 I6 A6 := by rw [eI, eA]; exact fj_nA J1
      rcases m_ifE hf with ⟨c6, hf⟩ | ⟨c6, hf⟩
      · obtain ⟨-, hf⟩ := m_chkE hf
        refine H1 I6 A6 J6 (Or.inr ⟨hlo, hlt, hc, q3.1 (by omega), ?_⟩) (Option.some.inj hf).symm
        rw [← t5, ← c6]
        exact q6
      · refine H0 I6 A6 J6 (fun h => ?_) hf
        rcases h with h | h
        · have := q2.2 h; omega
        · have := csP_u q6 h.2.2.2.2
          rw [← t5] at this
          exact c6 (Int32.toInt_inj.1 this)
  rcases m_ifE hf with ⟨c1, hf⟩ | ⟨c1, hf⟩
  · skip
    replace c1 := ti_eqP (a := r2) (b := (0 : Int32)) c1 rfl (show (0 : Int32).toInt = 0 from rfl)
    rcases m_ifE hf with ⟨c2, hf⟩ | ⟨c2, hf⟩
    · skip
      replace c2 := ti_eqP (a := x4) (b := (0 : Int32)) c2 rfl (show (0 : Int32).toInt = 0 from rfl)
      have hlo : lo = false := by
        cases lo
        · rfl
        · rw [if_pos rfl] at h4
          omega
      rcases m_ifE hf with ⟨c3, hf⟩ | ⟨c3, hf⟩
      · skip
        replace c3 := ti_leP (a := x3) (b := x2) c3 rfl rfl
        exact H0 Ic1 Ac1 J1 (no (fun h => by omega) (by omega)) hf
      · skip
        replace c3 := ti_leN (a := x3) (b := x2) c3 rfl rfl
        obtain ⟨v3, e_v3, hf⟩ := m_bndE hf
        have t_v3 : v3.toInt = x3.toInt - 1 := ti_sub e_v3 rfl (show (1 : Int32).toInt = 1 from rfl) (by omega) (by omega)
        obtain ⟨-, hf⟩ := m_chkE hf
        obtain ⟨v4, e_v4, hf⟩ := m_bndE hf
        have q4 : v4.toInt = ch (x3.toInt - 1) := by rw [← hch1, ← t_v3]; exact tx_at e_v4 (by omega) (by omega)
        rcases m_ifE hf with ⟨c4, hf⟩ | ⟨c4, hf⟩
        · skip
          replace c4 := ti_eqP (a := v4) (b := (43 : Int32)) c4 rfl (show (43 : Int32).toInt = 43 from rfl)
          exact chk (Or.inl (by omega)) (by omega) hlo (by omega) hf
        · skip
          replace c4 := ti_eqN (a := v4) (b := (43 : Int32)) c4 rfl (show (43 : Int32).toInt = 43 from rfl)
          obtain ⟨v5, e_v5, hf⟩ := m_bndE hf
          have t_v5 : v5.toInt = x3.toInt - 1 := ti_sub e_v5 rfl (show (1 : Int32).toInt = 1 from rfl) (by omega) (by omega)
          obtain ⟨-, hf⟩ := m_chkE hf
          obtain ⟨v6, e_v6, hf⟩ := m_bndE hf
          have q6 : v6.toInt = ch (x3.toInt - 1) := by rw [← hch1, ← t_v5]; exact tx_at e_v6 (by omega) (by omega)
          rcases m_ifE hf with ⟨c5, hf⟩ | ⟨c5, hf⟩
          · skip
            replace c5 := ti_eqP (a := v6) (b := (35 : Int32)) c5 rfl (show (35 : Int32).toInt = 35 from rfl)
            exact chk (Or.inr (by omega)) (by omega) hlo (by omega) hf
          · skip
            replace c5 := ti_eqN (a := v6) (b := (35 : Int32)) c5 rfl (show (35 : Int32).toInt = 35 from rfl)
            exact H0 Ic1 Ac1 J1 (no (fun h => by omega) (by omega)) hf
    · skip
      replace c2 := ti_eqN (a := x4) (b := (0 : Int32)) c2 rfl (show (0 : Int32).toInt = 0 from rfl)
      refine H0 Ic1 Ac1 J1 (no (fun h => ?_) (by omega)) hf
      rw [h.1, if_neg (by decide)] at h4
      exact absurd h4 c2
  · skip
    replace c1 := ti_eqN (a := r2) (b := (0 : Int32)) c1 rfl (show (0 : Int32).toInt = 0 from rfl)
    obtain ⟨-, hf⟩ := m_chkE hf
    cases hf
    try dsimp only
    exact H1 Ic1 Ac1 J1 (Or.inl (q2.1 (by omega))) rfl
theorem ft_37 (hP : POS m sd rt ps kw kb) (hko : ko = if sd = 0 then kw else kb) (hL : LGx m sd rt ps ko x1.toInt) (h2 : 0 ≤ x2.toInt ∧ x2.toInt ≤ 2000) (h3 : 0 ≤ x3.toInt ∧ x3.toInt ≤ n1) (hn1 : n1 ≤ 2000) (h4 : x4.toInt = if lo = true then 1 else 0) (h6 : x6.toInt = 0 ∨ x6.toInt = 1) (q6 : x6.toInt = 1 ↔ m (x1.toInt % 64) % 8 = 1) (h7 : x7.toInt = 0 ∨ x7.toInt = 1) (q7 : x7.toInt = 1 ↔ tkg m (x1.toInt % 64) (x1.toInt / 64 % 64)) : ∀ (n : Nat) (x8 : Int32) (I : Nat → Int32) (A : Nat → Nat → Int32), (0 ≤ x8.toInt ∧ x8.toInt ≤ 4) → FJ m sd rt ps ch n1 I A → f_fits_37 n x1 x2 x3 x4 x6 x7 x8 I A = some o → FJ m sd rt ps ch n1 o.2.1 o.2.2 ∧ (o.1.toInt = 0 ∨ o.1.toInt = 1) ∧ (o.1.toInt = 1 ↔ ∃ ap : Int, x8.toInt ≤ ap ∧ ap ≤ 3 ∧ mayA m x1.toInt ap ∧ okA m sd rt ps kw kb lo ch x2.toInt x3.toInt x1.toInt ap) := by
  intro n
  have hM := hP.2.1
  have hx := hL.1
  have z0 : (0 : Int32).toInt = 0 := rfl
  induction n with
  | zero => intro x8 I A _ _ hf; cases hf
  | succ n ih =>
    intro x8 I A h8 hJ hf
    have hf : f_fits_37s (f_fits_37 n) x1 x2 x3 x4 x6 x7 x8 I A = some o := hf
    obtain ⟨hI, hA, hm, i25, i26, i27, i29, hch, i1⟩ := id hJ
    have nxt : ∀ I A, FJ m sd rt ps ch n1 I A → ¬ (mayA m x1.toInt x8.toInt ∧ okA m sd rt ps kw kb lo ch x2.toInt x3.toInt x1.toInt x8.toInt) → x8.toInt < 4 → f_fits_198 (f_fits_37 n) x1 x2 x3 x4 x6 x7 x8 I A = some o → FJ m sd rt ps ch n1 o.2.1 o.2.2 ∧ (o.1.toInt = 0 ∨ o.1.toInt = 1) ∧ (o.1.toInt = 1 ↔ ∃ ap : Int, x8.toInt ≤ ap ∧ ap ≤ 3 ∧ mayA m x1.toInt ap ∧ okA m sd rt ps kw kb lo ch x2.toInt x3.toInt x1.toInt ap) := by
      intro I A hJ hn hlt hf
      unfold f_fits_198 at hf
      obtain ⟨v1, e1, hf⟩ := m_bndE hf
      have t1 : v1.toInt = x8.toInt + 1 := ti_add e1 rfl (show (1 : Int32).toInt = 1 from rfl) (by omega) (by omega)
      obtain ⟨g1, g2, g3⟩ := ih v1 I A (by omega) hJ hf
      refine ⟨g1, g2, g3.trans ⟨?_, ?_⟩⟩
      · rintro ⟨ap, p1, p2⟩
        exact ⟨ap, by omega, p2⟩
      · rintro ⟨ap, p1, p2⟩
        by_cases e : ap = x8.toInt
        · rw [e] at p2; exact absurd p2.2 hn
        · exact ⟨ap, by omega, p2⟩
    have go : mayA m x1.toInt x8.toInt → x8.toInt < 4 → ∀ t0 : Int32, t0.toInt = 1 → f_fits_90 (f_fits_37 n) x1 x2 x3 x4 x6 x7 x8 t0 I A = some o → FJ m sd rt ps ch n1 o.2.1 o.2.2 ∧ (o.1.toInt = 0 ∨ o.1.toInt = 1) ∧ (o.1.toInt = 1 ↔ ∃ ap : Int, x8.toInt ≤ ap ∧ ap ≤ 3 ∧ mayA m x1.toInt ap ∧ okA m sd rt ps kw kb lo ch x2.toInt x3.toInt x1.toInt ap) := by
      intro hmay hlt t0 ht0 hf
      have run : ∀ t9 : Int32, t9.toInt = tkA lo m x1.toInt → f_fits_116 (f_fits_37 n) x1 x2 x3 x4 x6 x7 x8 t9 x8 x1 I A = some o → FJ m sd rt ps ch n1 o.2.1 o.2.2 ∧ (o.1.toInt = 0 ∨ o.1.toInt = 1) ∧ (o.1.toInt = 1 ↔ ∃ ap : Int, x8.toInt ≤ ap ∧ ap ≤ 3 ∧ mayA m x1.toInt ap ∧ okA m sd rt ps kw kb lo ch x2.toInt x3.toInt x1.toInt ap) := by
        intro t9 ht9 hf
        refine ft_116 hJ hP hko hL h2 h3 hn1 h4 ⟨h8.1, by omega⟩ ht9 (fun I A hJ hok ho => ?_) (fun I A hJ hn hf => nxt I A hJ (fun h => hn h.2) hlt hf) hf
        rw [ho]
        exact ⟨hJ, Or.inr rfl, fun _ => ⟨x8.toInt, Int.le_refl _, by omega, hmay, hok⟩, fun _ => rfl⟩
      unfold f_fits_90 at hf
      rcases m_ifE hf with ⟨c, hf⟩ | ⟨c, hf⟩
      · rw [c] at ht0; omega
      · rcases m_ifE hf with ⟨d, hf⟩ | ⟨d, hf⟩
        · replace d := ti_eqP (a := x7) (b := (0 : Int32)) d rfl rfl
          unfold f_fits_115 at hf
          refine run 0 ?_ hf
          unfold tkA
          by_cases hl : lo = true
          · rw [if_pos hl]; rfl
          · rw [if_neg hl, if_neg (fun h => by have := q7.2 h; omega)]; rfl
        · replace d := ti_eqN (a := x7) (b := (0 : Int32)) d rfl rfl
          rcases m_ifE hf with ⟨e, hf⟩ | ⟨e, hf⟩
          · replace e := ti_eqP (a := x4) (b := (0 : Int32)) e rfl rfl
            refine run 1 ?_ hf
            unfold tkA
            by_cases hl : lo = true
            · rw [if_pos hl] at h4; omega
            · have tq : m (x1.toInt / 64 % 64) ≠ 0 ∨ (m (x1.toInt % 64) % 8 = 1 ∧ x1.toInt % 64 % 8 ≠ x1.toInt / 64 % 64 % 8) := q7.1 (by omega)
              rw [if_neg hl, if_pos tq]; rfl
          · replace e := ti_eqN (a := x4) (b := (0 : Int32)) e rfl rfl
            unfold f_fits_115 at hf
            refine run 0 ?_ hf
            unfold tkA
            by_cases hl : lo = true
            · rw [if_pos hl]; rfl
            · rw [if_neg hl] at h4; omega
    have stop : ¬ mayA m x1.toInt x8.toInt → x8.toInt < 4 → f_fits_90 (f_fits_37 n) x1 x2 x3 x4 x6 x7 x8 0 I A = some o → FJ m sd rt ps ch n1 o.2.1 o.2.2 ∧ (o.1.toInt = 0 ∨ o.1.toInt = 1) ∧ (o.1.toInt = 1 ↔ ∃ ap : Int, x8.toInt ≤ ap ∧ ap ≤ 3 ∧ mayA m x1.toInt ap ∧ okA m sd rt ps kw kb lo ch x2.toInt x3.toInt x1.toInt ap) := by
      intro hn hlt hf
      unfold f_fits_90 at hf
      rcases m_ifE hf with ⟨c, hf⟩ | ⟨c, hf⟩
      · exact nxt I A hJ (fun h => hn h.1) hlt hf
      · exact absurd rfl c
    unfold mayA at go stop
    unfold f_fits_37s at hf
    rcases m_ifE hf with ⟨c1, hf⟩ | ⟨c1, hf⟩
    · skip
      replace c1 := ti_leP (a := (4 : Int32)) (b := x8) c1 (show (4 : Int32).toInt = 4 from rfl) rfl
      obtain ⟨-, hf⟩ := m_chkE hf
      cases hf
      try dsimp only
      exact ⟨hJ, Or.inl rfl, fun h => absurd h (by decide), fun ⟨ap, p1, p2, _⟩ => by omega⟩
    · skip
      replace c1 := ti_leN (a := (4 : Int32)) (b := x8) c1 (show (4 : Int32).toInt = 4 from rfl) rfl
      obtain ⟨r1, h_r1, hf⟩ := m_clR hf (fun _ h => rro_isCastling h)
      obtain ⟨b1, q1⟩ := p_isCastling hI hA hm hM hx h_r1
      dsimp only at b1 q1
      rcases m_ifE hf with ⟨c2, hf⟩ | ⟨c2, hf⟩
      · skip
        replace c2 := ti_eqP (a := r1) (b := (0 : Int32)) c2 rfl (show (0 : Int32).toInt = 0 from rfl)
        have nc : ¬ (m (x1.toInt % 64) % 8 = 6 ∧ (x1.toInt / 64 % 64 = x1.toInt % 64 + 2 ∨ x1.toInt / 64 % 64 = x1.toInt % 64 - 2)) := fun h => by have := q1.2 h; omega
        rcases m_ifE hf with ⟨c3, hf⟩ | ⟨c3, hf⟩
        · skip
          replace c3 := ti_eqP (a := x6) (b := (0 : Int32)) c3 rfl (show (0 : Int32).toInt = 0 from rfl)
          unfold f_fits_85 at hf
          exact go (Or.inr ⟨nc, Or.inl (fun h => by have := q6.2 h; omega)⟩) (by omega) 1 rfl hf
        · skip
          replace c3 := ti_eqN (a := x6) (b := (0 : Int32)) c3 rfl (show (0 : Int32).toInt = 0 from rfl)
          rcases m_ifE hf with ⟨c4, hf⟩ | ⟨c4, hf⟩
          · skip
            replace c4 := ti_eqP (a := x8) (b := (1 : Int32)) c4 rfl (show (1 : Int32).toInt = 1 from rfl)
            unfold f_fits_85 at hf
            exact go (Or.inr ⟨nc, Or.inr (Or.inl (by omega))⟩) (by omega) 1 rfl hf
          · skip
            replace c4 := ti_eqN (a := x8) (b := (1 : Int32)) c4 rfl (show (1 : Int32).toInt = 1 from rfl)
            rcases m_ifE hf with ⟨c5, hf⟩ | ⟨c5, hf⟩
            · skip
              replace c5 := ti_eqP (a := x8) (b := (0 : Int32)) c5 rfl (show (0 : Int32).toInt = 0 from rfl)
              rcases m_ifE hf with ⟨c6, hf⟩ | ⟨c6, hf⟩
              · skip
                replace c6 := ti_eqP (a := x7) (b := (0 : Int32)) c6 rfl (show (0 : Int32).toInt = 0 from rfl)
                unfold f_fits_85 at hf
                exact go (Or.inr ⟨nc, Or.inr (Or.inr ⟨by omega, fun h => by have := q7.2 h; omega⟩)⟩) (by omega) 1 rfl hf
              · skip
                replace c6 := ti_eqN (a := x7) (b := (0 : Int32)) c6 rfl (show (0 : Int32).toInt = 0 from rfl)
                unfold f_fits_89 at hf
                refine stop (fun h => ?_) (by omega) hf
                rcases h with h | ⟨-, h | h | h⟩
                · exact nc h.1
                · exact h (q6.1 (by omega))
                · omega
                · exact h.2 (q7.1 (by omega))
            · skip
              replace c5 := ti_eqN (a := x8) (b := (0 : Int32)) c5 rfl (show (0 : Int32).toInt = 0 from rfl)
              unfold f_fits_89 at hf
              refine stop (fun h => ?_) (by omega) hf
              rcases h with h | ⟨-, h | h | h⟩
              · exact nc h.1
              · exact h (q6.1 (by omega))
              · omega
              · omega
      · skip
        replace c2 := ti_eqN (a := r1) (b := (0 : Int32)) c2 rfl (show (0 : Int32).toInt = 0 from rfl)
        have yc := q1.1 (by omega)
        rcases m_ifE hf with ⟨c7, hf⟩ | ⟨c7, hf⟩
        · skip
          replace c7 := ti_eqP (a := x8) (b := (0 : Int32)) c7 rfl (show (0 : Int32).toInt = 0 from rfl)
          exact go (Or.inl ⟨yc, by omega⟩) (by omega) 1 rfl hf
        · skip
          replace c7 := ti_eqN (a := x8) (b := (0 : Int32)) c7 rfl (show (0 : Int32).toInt = 0 from rfl)
          refine stop (fun h => ?_) (by omega) hf
          rcases h with h | h
          · omega
          · exact h.1 yc
theorem p_fits (hJ : FJ m sd rt ps ch n1 I A) (hP : POS m sd rt ps kw kb) (hko : ko = if sd = 0 then kw else kb) (hL : LGx m sd rt ps ko x1.toInt) (h2 : 0 ≤ x2.toInt ∧ x2.toInt ≤ 2000) (h3 : 0 ≤ x3.toInt ∧ x3.toInt ≤ n1) (hn1 : n1 ≤ 2000) (h4 : x4.toInt = if lo = true then 1 else 0) (hf : f_fits x1 x2 x3 x4 I A = some o) : FJ m sd rt ps ch n1 o.2.1 o.2.2 ∧ (o.1.toInt = 0 ∨ o.1.toInt = 1) ∧ (o.1.toInt = 1 ↔ FRs m sd rt ps kw kb lo ch x2.toInt x3.toInt x1.toInt) := by
  have hf : f_fits_0 x1 x2 x3 x4 I A = some o := hf
  obtain ⟨hI, hA, hm, i25, i26, i27, i29, hch, i1⟩ := id hJ
  have hM := hP.2.1
  have hx := hL.1
  have z0 : (0 : Int32).toInt = 0 := rfl
  have fin : ∀ t0 : Int32, (t0.toInt = 0 ∨ t0.toInt = 1) → (t0.toInt = 1 ↔ m (x1.toInt % 64) % 8 = 1) → f_fits_25 x1 x2 x3 x4 t0 I A = some o → FJ m sd rt ps ch n1 o.2.1 o.2.2 ∧ (o.1.toInt = 0 ∨ o.1.toInt = 1) ∧ (o.1.toInt = 1 ↔ FRs m sd rt ps kw kb lo ch x2.toInt x3.toInt x1.toInt) := by
    intro t0 b0 q0 hf
    unfold f_fits_25 at hf
    obtain ⟨r1, h1, hf⟩ := m_clR hf (fun _ h => rro_isTaking h)
    obtain ⟨-, b1, q1⟩ := ok_of (x_isTaking hI hA hx (by rw [hm]; exact hM)) h1
    dsimp only at b1 q1
    rw [hm] at q1
    exact ft_37 hP hko hL h2 h3 hn1 h4 b0 q0 (by omega) q1 mFuel 0 I A (by decide) hJ hf
  unfold f_fits_0 at hf
  obtain ⟨v1, e_v1, hf⟩ := m_bndE hf
  have t_v1 : v1.toInt = x1.toInt % 64 := ti_rem e_v1 rfl (show (64 : Int32).toInt = 64 from rfl) (by omega) (by decide)
  obtain ⟨-, hf⟩ := m_chkE hf
  obtain ⟨v2, e_v2, hf⟩ := m_bndE hf
  have q2 := mR_at e_v2 (by omega) (by omega)
  rw [hm, t_v1] at q2
  have b2 := hM (x1.toInt % 64)
  obtain ⟨r3, h_r3, hf⟩ := m_clR hf (fun _ h => rro_kind h)
  have p_r3 := pc_kind h_r3
  dsimp only at p_r3
  have q3 := p_r3 hI hA (by omega)
  rcases m_ifE hf with ⟨c1, hf⟩ | ⟨c1, hf⟩
  · skip
    replace c1 := ti_eqP (a := r3) (b := (1 : Int32)) c1 rfl (show (1 : Int32).toInt = 1 from rfl)
    exact fin 1 (Or.inr rfl) ⟨fun _ => by omega, fun _ => rfl⟩ hf
  · skip
    replace c1 := ti_eqN (a := r3) (b := (1 : Int32)) c1 rfl (show (1 : Int32).toInt = 1 from rfl)
    exact fin 0 (Or.inl rfl) ⟨fun h => absurd h (by decide), fun h => by omega⟩ hf
theorem lg_key {key : Nat} (hP : POS m sd rt ps kw kb) (hko : ko = if sd = 0 then kw else kb) (hk : key < 32768) (h : LR m sd rt ps ko key) : LGx m sd rt ps ko (mvk key) ∧ mvk key % 64 = ((key / 512 : Nat) : Int) ∧ mvk key / 64 % 64 = ((key / 8 % 64 : Nat) : Int) ∧ mvk key / 4096 = ((key % 8 : Nat) : Int) := by
  have h5 := lr_p5 h
  obtain ⟨g1, g2, g3⟩ := (lr_lc hP hko hk).1 h
  have key3 : ∀ a b c : Nat, a < 64 → b < 64 → ((a : Int) + 64 * (b : Int) + 4096 * (c : Int)) % 64 = (a : Int) ∧ ((a : Int) + 64 * (b : Int) + 4096 * (c : Int)) / 64 % 64 = (b : Int) ∧ ((a : Int) + 64 * (b : Int) + 4096 * (c : Int)) / 4096 = (c : Int) := fun a b c h1 h2 => by omega
  obtain ⟨e1, e2, e3⟩ := key3 (key / 512) (key / 8 % 64) (key % 8) (by omega) (Nat.mod_lt _ (by decide))
  have em : ((key / 512 : Nat) : Int) + 64 * ((key / 8 % 64 : Nat) : Int) + 4096 * ((key % 8 : Nat) : Int) = mvk key := rfl
  rw [em] at e1 e2 e3
  refine ⟨⟨by unfold mvk; omega, ?_⟩, e1, e2, e3⟩
  rw [e1, e2, e3]
  exact ⟨g1, g3, (saf_p hP (by omega) (by omega) g1 g3).2 g2⟩
/-- the reference with its list of moves -/
def UJ (m : Int → Int) (sd rt ps ko : Int) (ch : Int → Int) (n1 : Int) (I : Nat → Int32) (A : Nat → Nat → Int32) : Prop := FJ m sd rt ps ch n1 I A ∧ (I 33).toInt = ((cnt (LR m sd rt ps ko) 32768 : Nat) : Int) ∧ LST (fun k => (A 32 k).toInt) (LR m sd rt ps ko) mvk 32768
theorem uj_fits {r : Int32} {I2 : Nat → Int32} {A2 : Nat → Nat → Int32} (h : UJ m sd rt ps ko ch n1 I A) (hJ : FJ m sd rt ps ch n1 I2 A2) (hf : f_fits x1 x2 x3 x4 I A = some (r, I2, A2)) : UJ m sd rt ps ko ch n1 I2 A2 ∧ A2 32 = A 32 := by
  have fw := fw_fits hf
  have e1 : I2 33 = I 33 := fw.1 33 (by decide)
  have e2 : A2 32 = A 32 := fw.2 32 (by decide)
  exact ⟨⟨hJ, by rw [e1]; exact h.2.1, by rw [e2]; exact h.2.2⟩, e2⟩
/-- what the reference answers of signs -/
def RSr (m : Int → Int) (sd rt ps kw kb ko : Int) (ch : Int → Int) (a b v : Int) : Prop := (0 < cnt (fun key => LR m sd rt ps ko key ∧ FRs m sd rt ps kw kb false ch a b (mvk key)) 32768 ∧ ((cnt (fun key => LR m sd rt ps ko key ∧ FRs m sd rt ps kw kb false ch a b (mvk key)) 32768 = 1 ∧ ∃ key, key < 32768 ∧ LR m sd rt ps ko key ∧ FRs m sd rt ps kw kb false ch a b (mvk key) ∧ v = mvk key) ∨ (cnt (fun key => LR m sd rt ps ko key ∧ FRs m sd rt ps kw kb false ch a b (mvk key)) 32768 ≠ 1 ∧ v = -1))) ∨ (cnt (fun key => LR m sd rt ps ko key ∧ FRs m sd rt ps kw kb false ch a b (mvk key)) 32768 = 0 ∧ ((cnt (fun key => LR m sd rt ps ko key ∧ FRs m sd rt ps kw kb true ch a b (mvk key)) 32768 = 1 ∧ v = -2) ∨ (cnt (fun key => LR m sd rt ps ko key ∧ FRs m sd rt ps kw kb true ch a b (mvk key)) 32768 ≠ 1 ∧ v = -1)))
theorem un_71 (hP : POS m sd rt ps kw kb) (hko : ko = if sd = 0 then kw else kb) (h1 : 0 ≤ x1.toInt ∧ x1.toInt ≤ 2000) (h2 : 0 ≤ x2.toInt ∧ x2.toInt ≤ n1) (hn1 : n1 ≤ 2000) (hmv : cnt (LR m sd rt ps ko) 32768 ≤ 2048) : ∀ (n : Nat) (x3 x5 : Int32) (I : Nat → Int32) (A : Nat → Nat → Int32), (0 ≤ x5.toInt ∧ x5.toInt ≤ ((cnt (LR m sd rt ps ko) 32768 : Nat) : Int)) → UJ m sd rt ps ko ch n1 I A → x3.toInt = ((cnt (fun k => FRs m sd rt ps kw kb true ch x1.toInt x2.toInt ((A 32 k).toInt)) x5.toInt.toNat : Nat) : Int) → f_understood_71 n x1 x2 x3 x5 I A = some o → FJ m sd rt ps ch n1 o.2.1 o.2.2 ∧ ((cnt (fun key => LR m sd rt ps ko key ∧ FRs m sd rt ps kw kb true ch x1.toInt x2.toInt (mvk key)) 32768 = 1 ∧ o.1.toInt = -2) ∨ (cnt (fun key => LR m sd rt ps ko key ∧ FRs m sd rt ps kw kb true ch x1.toInt x2.toInt (mvk key)) 32768 ≠ 1 ∧ o.1.toInt = -1)) := by
  intro n
  have z0 : (0 : Int32).toInt = 0 := rfl
  induction n with
  | zero => intro x3 x5 I A _ _ _ hf; cases hf
  | succ n ih =>
    intro x3 x5 I A h5 hU h3 hf
    have hf : f_understood_71s (f_understood_71 n) x1 x2 x3 x5 I A = some o := hf
    obtain ⟨hJ, u33, ul⟩ := id hU
    have c5 : cnt (fun k => FRs m sd rt ps kw kb true ch x1.toInt x2.toInt ((A 32 k).toInt)) x5.toInt.toNat ≤ x5.toInt.toNat := cnt_le
    have fin : ((cnt (LR m sd rt ps ko) 32768 : Nat) : Int) ≤ x5.toInt → x3.toInt = ((cnt (fun key => LR m sd rt ps ko key ∧ FRs m sd rt ps kw kb true ch x1.toInt x2.toInt (mvk key)) 32768 : Nat) : Int) := fun h => by
      have e5 : x5.toInt.toNat = cnt (LR m sd rt ps ko) 32768 := by omega
      rw [h3, e5, lst_cnt (F := FRs m sd rt ps kw kb true ch x1.toInt x2.toInt) 32768 ul]
    unfold f_understood_71s at hf
    rcases m_ifE hf with ⟨c1, hf⟩ | ⟨c1, hf⟩
    · skip
      replace c1 := ti_leP (a := (I 33)) (b := x5) c1 rfl rfl
      have e3 := fin (by omega)
      rcases m_ifE hf with ⟨c2, hf⟩ | ⟨c2, hf⟩
      · skip
        replace c2 := ti_eqP (a := x3) (b := (1 : Int32)) c2 rfl (show (1 : Int32).toInt = 1 from rfl)
        unfold f_understood_122 at hf
        cases hf
        try dsimp only
        exact ⟨hJ, Or.inl ⟨by omega, rfl⟩⟩
      · skip
        replace c2 := ti_eqN (a := x3) (b := (1 : Int32)) c2 rfl (show (1 : Int32).toInt = 1 from rfl)
        unfold f_understood_122 at hf
        cases hf
        try dsimp only
        exact ⟨hJ, Or.inr ⟨by omega, rfl⟩⟩
    · skip
      replace c1 := ti_leN (a := (I 33)) (b := x5) c1 rfl rfl
      obtain ⟨key, hk, hq, hqc⟩ := cnt_sur (P := LR m sd rt ps ko) (k := x5.toInt.toNat) (N := 32768) (by omega)
      obtain ⟨lg, -, -, -⟩ := lg_key hP hko hk hq
      obtain ⟨-, hf⟩ := m_chkE hf
      obtain ⟨v1, e_v1, hf⟩ := m_bndE hf
      have q1 : v1.toInt = mvk key := by
        have := ul key hk hq
        rw [hqc] at this
        rw [e_v1]
        exact this
      obtain ⟨⟨r2, Ic2, Ac2⟩, h_r2, hf⟩ := m_clE hf
      dsimp only at hf
      obtain ⟨J2, b2, q2⟩ := p_fits (lo := true) hJ hP hko (by rw [q1]; exact lg) h1 h2 hn1 rfl h_r2
      dsimp only at J2 b2 q2
      obtain ⟨U2, e32⟩ := uj_fits hU J2 h_r2
      have e9 : (A 32 x5.toInt.toNat).toInt = v1.toInt := by rw [e_v1]; rfl
      rcases m_ifE hf with ⟨c3, hf⟩ | ⟨c3, hf⟩
      · skip
        replace c3 := ti_eqP (a := r2) (b := (0 : Int32)) c3 rfl (show (0 : Int32).toInt = 0 from rfl)
        unfold f_understood_104 at hf
        obtain ⟨v9, e9', hf⟩ := m_bndE hf
        have t9 : v9.toInt = x5.toInt + 1 := ti_add e9' rfl (show (1 : Int32).toInt = 1 from rfl) (by omega) (by omega)
        refine ih x3 v9 Ic2 Ac2 (by omega) U2 ?_ hf
        rw [e32, show v9.toInt.toNat = x5.toInt.toNat + 1 by omega, cnt_n (fun h => by rw [e9] at h; have := q2.2 h; omega)]
        exact h3
      · skip
        replace c3 := ti_eqN (a := r2) (b := (0 : Int32)) c3 rfl (show (0 : Int32).toInt = 0 from rfl)
        obtain ⟨v3, e_v3, hf⟩ := m_bndE hf
        have t_v3 : v3.toInt = x3.toInt + 1 := ti_add e_v3 rfl (show (1 : Int32).toInt = 1 from rfl) (by omega) (by omega)
        unfold f_understood_104 at hf
        obtain ⟨v9, e9', hf⟩ := m_bndE hf
        have t9 : v9.toInt = x5.toInt + 1 := ti_add e9' rfl (show (1 : Int32).toInt = 1 from rfl) (by omega) (by omega)
        refine ih v3 v9 Ic2 Ac2 (by omega) U2 ?_ hf
        rw [e32, show v9.toInt.toNat = x5.toInt.toNat + 1 by omega, cnt_y (show FRs m sd rt ps kw kb true ch x1.toInt x2.toInt ((A 32 x5.toInt.toNat).toInt) by rw [e9]; exact q2.1 (by omega)), t_v3, h3]
        omega
theorem un_8 (hP : POS m sd rt ps kw kb) (hko : ko = if sd = 0 then kw else kb) (h1 : 0 ≤ x1.toInt ∧ x1.toInt ≤ 2000) (h2 : 0 ≤ x2.toInt ∧ x2.toInt ≤ n1) (hn1 : n1 ≤ 2000) (hmv : cnt (LR m sd rt ps ko) 32768 ≤ 2048) : ∀ (n : Nat) (x3 x4 x5 : Int32) (I : Nat → Int32) (A : Nat → Nat → Int32), (0 ≤ x5.toInt ∧ x5.toInt ≤ ((cnt (LR m sd rt ps ko) 32768 : Nat) : Int)) → UJ m sd rt ps ko ch n1 I A → x3.toInt = ((cnt (fun k => FRs m sd rt ps kw kb false ch x1.toInt x2.toInt ((A 32 k).toInt)) x5.toInt.toNat : Nat) : Int) → (0 < x3.toInt → ∃ key, key < 32768 ∧ LR m sd rt ps ko key ∧ FRs m sd rt ps kw kb false ch x1.toInt x2.toInt (mvk key) ∧ x4.toInt = mvk key) → f_understood_8 n x1 x2 x3 x4 x5 I A = some o → FJ m sd rt ps ch n1 o.2.1 o.2.2 ∧ RSr m sd rt ps kw kb ko ch x1.toInt x2.toInt o.1.toInt := by
  intro n
  have z0 : (0 : Int32).toInt = 0 := rfl
  induction n with
  | zero => intro x3 x4 x5 I A _ _ _ _ hf; cases hf
  | succ n ih =>
    intro x3 x4 x5 I A h5 hU h3 h4 hf
    have hf : f_understood_8s (f_understood_8 n) x1 x2 x3 x4 x5 I A = some o := hf
    obtain ⟨hJ, u33, ul⟩ := id hU
    have c5 : cnt (fun k => FRs m sd rt ps kw kb false ch x1.toInt x2.toInt ((A 32 k).toInt)) x5.toInt.toNat ≤ x5.toInt.toNat := cnt_le
    have fin : ((cnt (LR m sd rt ps ko) 32768 : Nat) : Int) ≤ x5.toInt → x3.toInt = ((cnt (fun key => LR m sd rt ps ko key ∧ FRs m sd rt ps kw kb false ch x1.toInt x2.toInt (mvk key)) 32768 : Nat) : Int) := fun h => by
      have e5 : x5.toInt.toNat = cnt (LR m sd rt ps ko) 32768 := by omega
      rw [h3, e5, lst_cnt (F := FRs m sd rt ps kw kb false ch x1.toInt x2.toInt) 32768 ul]
    unfold f_understood_8s at hf
    rcases m_ifE hf with ⟨c1, hf⟩ | ⟨c1, hf⟩
    · skip
      replace c1 := ti_leP (a := (I 33)) (b := x5) c1 rfl rfl
      have e3 := fin (by omega)
      rcases m_ifE hf with ⟨c2, hf⟩ | ⟨c2, hf⟩
      · skip
        replace c2 := ti_leP (a := x3) (b := (0 : Int32)) c2 rfl (show (0 : Int32).toInt = 0 from rfl)
        obtain ⟨g1, g2⟩ := un_71 hP hko h1 h2 hn1 hmv mFuel x3 0 I A (by omega) hU (by show x3.toInt = 0; omega) hf
        exact ⟨g1, Or.inr ⟨by omega, g2⟩⟩
      · skip
        replace c2 := ti_leN (a := x3) (b := (0 : Int32)) c2 rfl (show (0 : Int32).toInt = 0 from rfl)
        rcases m_ifE hf with ⟨c3, hf⟩ | ⟨c3, hf⟩
        · skip
          replace c3 := ti_eqP (a := x3) (b := (1 : Int32)) c3 rfl (show (1 : Int32).toInt = 1 from rfl)
          unfold f_understood_67 at hf
          cases hf
          try dsimp only
          exact ⟨hJ, Or.inl ⟨by omega, Or.inl ⟨by omega, h4 (by omega)⟩⟩⟩
        · skip
          replace c3 := ti_eqN (a := x3) (b := (1 : Int32)) c3 rfl (show (1 : Int32).toInt = 1 from rfl)
          unfold f_understood_67 at hf
          cases hf
          try dsimp only
          exact ⟨hJ, Or.inl ⟨by omega, Or.inr ⟨by omega, rfl⟩⟩⟩
    · skip
      replace c1 := ti_leN (a := (I 33)) (b := x5) c1 rfl rfl
      obtain ⟨key, hk, hq, hqc⟩ := cnt_sur (P := LR m sd rt ps ko) (k := x5.toInt.toNat) (N := 32768) (by omega)
      obtain ⟨lg, -, -, -⟩ := lg_key hP hko hk hq
      obtain ⟨-, hf⟩ := m_chkE hf
      obtain ⟨v1, e_v1, hf⟩ := m_bndE hf
      have q1 : v1.toInt = mvk key := by
        have := ul key hk hq
        rw [hqc] at this
        rw [e_v1]
        exact this
      obtain ⟨⟨r2, Ic2, Ac2⟩, h_r2, hf⟩ := m_clE hf
      dsimp only at hf
      obtain ⟨J2, b2, q2⟩ := p_fits (lo := false) hJ hP hko (by rw [q1]; exact lg) h1 h2 hn1 rfl h_r2
      dsimp only at J2 b2 q2
      obtain ⟨U2, e32⟩ := uj_fits hU J2 h_r2
      have e9 : (A 32 x5.toInt.toNat).toInt = v1.toInt := by rw [e_v1]; rfl
      rcases m_ifE hf with ⟨c4, hf⟩ | ⟨c4, hf⟩
      · skip
        replace c4 := ti_eqP (a := r2) (b := (0 : Int32)) c4 rfl (show (0 : Int32).toInt = 0 from rfl)
        unfold f_understood_46 at hf
        obtain ⟨v9, e9', hf⟩ := m_bndE hf
        have t9 : v9.toInt = x5.toInt + 1 := ti_add e9' rfl (show (1 : Int32).toInt = 1 from rfl) (by omega) (by omega)
        refine ih x3 x4 v9 Ic2 Ac2 (by omega) U2 ?_ h4 hf
        rw [e32, show v9.toInt.toNat = x5.toInt.toNat + 1 by omega, cnt_n (fun h => by rw [e9] at h; have := q2.2 h; omega)]
        exact h3
      · skip
        replace c4 := ti_eqN (a := r2) (b := (0 : Int32)) c4 rfl (show (0 : Int32).toInt = 0 from rfl)
        obtain ⟨v3, e_v3, hf⟩ := m_bndE hf
        have t_v3 : v3.toInt = x3.toInt + 1 := ti_add e_v3 rfl (show (1 : Int32).toInt = 1 from rfl) (by omega) (by omega)
        obtain ⟨-, hf⟩ := m_chkE hf
        obtain ⟨v4, e_v4, hf⟩ := m_bndE hf
        have q4 : v4.toInt = mvk key := by
          rw [← q1, e_v4, e32]
          exact e9
        unfold f_understood_46 at hf
        obtain ⟨v9, e9', hf⟩ := m_bndE hf
        have t9 : v9.toInt = x5.toInt + 1 := ti_add e9' rfl (show (1 : Int32).toInt = 1 from rfl) (by omega) (by omega)
        refine ih v3 v4 v9 Ic2 Ac2 (by omega) U2 ?_ (fun _ => ⟨key, hk, hq, by rw [← q1]; exact q2.1 (by omega), q4⟩) hf
        rw [e32, show v9.toInt.toNat = x5.toInt.toNat + 1 by omega, cnt_y (show FRs m sd rt ps kw kb false ch x1.toInt x2.toInt ((A 32 x5.toInt.toNat).toInt) by rw [e9]; exact q2.1 (by omega)), t_v3, h3]
        omega
theorem p_understood (hU : UJ m sd rt ps ko ch n1 I A) (hP : POS m sd rt ps kw kb) (hko : ko = if sd = 0 then kw else kb) (h1 : 0 ≤ x1.toInt ∧ x1.toInt ≤ 2000) (h2 : 0 ≤ x2.toInt ∧ x2.toInt ≤ n1) (hn1 : n1 ≤ 2000) (hf : f_understood x1 x2 I A = some o) : FJ m sd rt ps ch n1 o.2.1 o.2.2 ∧ RSr m sd rt ps kw kb ko ch x1.toInt x2.toInt o.1.toInt := by
  have hmv : cnt (LR m sd rt ps ko) 32768 ≤ 2048 := by
    have := hU.1.1 33
    have e : (tB 33).2 = 2048 := rfl
    have := hU.2.1
    omega
  exact un_8 hP hko h1 h2 hn1 hmv mFuel 0 (-1) 0 I A (by have z : (0 : Int32).toInt = 0 := rfl; omega) hU rfl (fun h => absurd h (by decide)) hf
end FTS
