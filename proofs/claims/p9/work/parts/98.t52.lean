/-- digits, at most k, from p on: where they end, what they tell -/
def dgs (ch : Int → Int) : Nat → Int → Int → Int × Int
  | 0, p, v => (p, v)
  | k + 1, p, v => if 48 ≤ ch p ∧ ch p ≤ 57 then dgs ch k (p + 1) (10 * v + (ch p - 48)) else (p, v)
def DB (k : Nat) (v : Int) : Prop := 0 ≤ v ∧ ((k = 4 ∧ v = 0) ∨ (k = 3 ∧ v ≤ 9) ∨ (k = 2 ∧ v ≤ 99) ∨ (k = 1 ∧ v ≤ 999) ∨ (k = 0 ∧ v ≤ 9999))
section DGS
variable {ch : Int → Int} {p v : Int} {k : Nat}
theorem dgs_y (h : 48 ≤ ch p ∧ ch p ≤ 57) : dgs ch (k + 1) p v = dgs ch k (p + 1) (10 * v + (ch p - 48)) := if_pos h
theorem dgs_n (h : ¬ (48 ≤ ch p ∧ ch p ≤ 57)) : dgs ch (k + 1) p v = (p, v) := if_neg h
theorem dgs_b : ∀ (k : Nat) (p v : Int), p ≤ (dgs ch k p v).1 ∧ (dgs ch k p v).1 ≤ p + (k : Int)
  | 0, p, v => by
    show p ≤ p ∧ p ≤ p + 0
    omega
  | k + 1, p, v => by
    by_cases h : 48 ≤ ch p ∧ ch p ≤ 57
    · rw [dgs_y h]
      have := dgs_b k (p + 1) (10 * v + (ch p - 48))
      omega
    · rw [dgs_n h]
      show p ≤ p ∧ p ≤ p + ((k + 1 : Nat) : Int)
      omega
theorem dgs_v : ∀ (k : Nat) (p v : Int), DB k v → 0 ≤ (dgs ch k p v).2 ∧ (dgs ch k p v).2 ≤ 9999
  | 0, p, v, h => by
    show 0 ≤ v ∧ v ≤ 9999
    unfold DB at h; omega
  | k + 1, p, v, h => by
    by_cases g : 48 ≤ ch p ∧ ch p ≤ 57
    · rw [dgs_y g]
      exact dgs_v k (p + 1) (10 * v + (ch p - 48)) (by unfold DB at h ⊢; omega)
    · rw [dgs_n g]
      show 0 ≤ v ∧ v ≤ 9999
      unfold DB at h; omega
theorem dgs_N {N : Int} (hz : ∀ i, N ≤ i → ch i = 0) : ∀ (k : Nat) (p v : Int), p ≤ N → (dgs ch k p v).1 ≤ N
  | 0, p, v, h => h
  | k + 1, p, v, h => by
    by_cases g : 48 ≤ ch p ∧ ch p ≤ 57
    · rw [dgs_y g]
      refine dgs_N hz k (p + 1) _ ?_
      by_cases e : p < N
      · omega
      · have := hz p (by omega); omega
    · rw [dgs_n g]; exact h
end DGS
section DGC
variable {S0 S S' : ZS} {ch : Int → Int} {N p q : Int} {o : Int32 × ZS} {x1 x2 x3 : Int32}
theorem rd_9 : ∀ (n : Nat) (x3 : Int32) (S : ZS) (q : Int) (k : Nat), x2.toInt = q + (k : Int) → DB k x3.toInt → q + (k : Int) ≤ 3010 → LW S ch N q → FR (fun a => a = 23) S0 S → f_X2_readDigits_9 n 23 x2 x3 S = some o → o.1.toInt = (dgs ch k q x3.toInt).2 ∧ LW o.2 ch N (dgs ch k q x3.toInt).1 ∧ FR (fun a => a = 23) S0 o.2 := by
  intro n
  induction n with
  | zero => intro x3 S q k _ _ _ _ _ hf; cases hf
  | succ n ih =>
    intro x3 S q k hx hD hq h hF hf
    have hf : f_X2_readDigits_9s (f_X2_readDigits_9 n) 23 x2 x3 S = some o := hf
    obtain ⟨hT, ⟨k23, p2, k2⟩, ⟨hc, hN1, hn⟩, hcb, h44, hp⟩ := id h
    have b0 := hcb q
    have hD2 := hD
    unfold DB at hD2
    unfold f_X2_readDigits_9s at hf
    obtain ⟨-, hf⟩ := m_chkE hf
    rcases m_ifE hf with ⟨c1, hf⟩ | ⟨c1, hf⟩
    · skip
      replace c1 := ti_leP (a := x2) (b := (zI S 4 23)) c1 rfl rfl
      unfold f_X2_readDigits_67 at hf
      cases hf
      try dsimp only
      have k0 : k = 0 := by omega
      subst k0
      exact ⟨rfl, h, hF⟩
    · skip
      replace c1 := ti_leN (a := x2) (b := (zI S 4 23)) c1 rfl rfl
      obtain ⟨-, hf⟩ := m_chkE hf
      replace hf := m_calY hf p2
      obtain ⟨-, hf⟩ := m_chkE hf
      obtain ⟨-, hf⟩ := m_chkE hf
      obtain ⟨r2, h_r2, hf⟩ := m_calR hf (fun _ h => ro_X6_at h)
      dsimp only at hf
      have p_r2 := pc_X6_at h_r2
      dsimp only at p_r2
      rw [hc, h44] at p_r2
      obtain ⟨r3, h_r3, hf⟩ := m_calR hf (fun _ h => ro_X11_isDigit h)
      dsimp only at hf
      have p_r3 := pc_X11_isDigit h_r3
      dsimp only at p_r3
      rw [p_r2] at p_r3
      unfold isD at p_r3
      obtain ⟨k', rfl⟩ : ∃ k', k = k' + 1 := ⟨k - 1, by omega⟩
      rcases m_ifE hf with ⟨c2, hf⟩ | ⟨c2, hf⟩
      · skip
        replace c2 := ti_eqP (a := r3) (b := (0 : Int32)) c2 rfl (show (0 : Int32).toInt = 0 from rfl)
        unfold f_X2_readDigits_67 at hf
        cases hf
        try dsimp only
        rw [dgs_n (fun g => by have := p_r3.2.2 g; omega)]
        exact ⟨rfl, h, hF⟩
      · skip
        replace c2 := ti_eqN (a := r3) (b := (0 : Int32)) c2 rfl (show (0 : Int32).toInt = 0 from rfl)
        obtain ⟨v4, e_v4, hf⟩ := m_bndE hf
        have t_v4 : v4.toInt = 10 * x3.toInt := ti_mul e_v4 (show (10 : Int32).toInt = 10 from rfl) rfl (by omega) (by omega)
        obtain ⟨-, hf⟩ := m_chkE hf
        replace hf := m_calY hf p2
        obtain ⟨-, hf⟩ := m_chkE hf
        obtain ⟨-, hf⟩ := m_chkE hf
        obtain ⟨r6, h_r6, hf⟩ := m_calR hf (fun _ h => ro_X6_at h)
        dsimp only at hf
        have p_r6 := pc_X6_at h_r6
        dsimp only at p_r6
        rw [hc, h44] at p_r6
        have dg := p_r3.2.1 (by omega)
        obtain ⟨v7, e_v7, hf⟩ := m_bndE hf
        have t_v7 : v7.toInt = v4.toInt + r6.toInt := ti_add e_v7 rfl rfl (by omega) (by omega)
        obtain ⟨v8, e_v8, hf⟩ := m_bndE hf
        have t_v8 : v8.toInt = v7.toInt - 48 := ti_sub e_v8 rfl (show (48 : Int32).toInt = 48 from rfl) (by omega) (by omega)
        obtain ⟨-, hf⟩ := m_chkE hf
        obtain ⟨v9, e_v9, hf⟩ := m_bndE hf
        have t_v9 : v9.toInt = (zI S 4 23).toInt + 1 := ti_add e_v9 rfl (show (1 : Int32).toInt = 1 from rfl) (by omega) (by omega)
        obtain ⟨-, hf⟩ := m_chkE hf
        obtain ⟨S10, e_S10, hf⟩ := m_bndE hf
        rw [dgs_y dg]
        have e8 : v8.toInt = 10 * x3.toInt + (ch q - 48) := by omega
        rw [← e8]
        exact ih v8 S10 (q + 1) k' (by omega) (by unfold DB; omega) (by omega) (lw_at h e_S10 (by omega) (by omega)) (fr_t hF (fr_I e_S10)) hf
theorem p_readDigits {k : Nat} (h : LW S ch N p) (hp3 : p ≤ 2900) (hk : k = 3 ∨ k = 4) (h1 : x1.toInt = (k : Int)) (hf : f_X2_readDigits 23 x1 S = some o) : o.1.toInt = (dgs ch k p 0).2 ∧ LW o.2 ch N (dgs ch k p 0).1 ∧ FR (fun a => a = 23) S o.2 := by
  have hf : f_X2_readDigits_0 23 x1 S = some o := hf
  have h4 := h.2.2.2.2
  unfold f_X2_readDigits_0 at hf
  obtain ⟨-, hf⟩ := m_chkE hf
  obtain ⟨v1, e_v1, hf⟩ := m_bndE hf
  have t_v1 : v1.toInt = (zI S 4 23).toInt + x1.toInt := ti_add e_v1 rfl rfl (by omega) (by omega)
  have z : (0 : Int32).toInt = 0 := rfl
  have g := rd_9 (S0 := S) mFuel 0 S p k (by omega) (by unfold DB; omega) (by omega) h fr_0 hf
  rw [z] at g
  exact g
end DGC
/-- points -/
def PT (ch : Int → Int) (a b : Int) : Prop := a ≤ b ∧ (∀ j, a ≤ j → j < b → ch j = 46) ∧ ch b ≠ 46
theorem pt_u {ch : Int → Int} {a b c : Int} (h : PT ch a b) (g : PT ch a c) : b = c := by
  obtain ⟨h1, h2, h3⟩ := h
  obtain ⟨g1, g2, g3⟩ := g
  rcases Int.lt_trichotomy b c with l | l | l
  · exact absurd (g2 b h1 l) h3
  · exact l
  · exact absurd (h2 c g1 l) g3
noncomputable def ptk (ch : Int → Int) (p : Int) : Int := @dite _ (∃ b, PT ch p b) (Classical.propDecidable _) (fun h => Classical.choose h) (fun _ => p)
theorem ptk_e {ch : Int → Int} {p b : Int} (h : PT ch p b) : ptk ch p = b := by
  have h2 : ∃ b, PT ch p b := ⟨b, h⟩
  unfold ptk
  rw [dif_pos h2]
  exact pt_u (Classical.choose_spec h2) h
/-- a move's number, if one stands there -/
noncomputable def nuP (ch : Int → Int) (due p : Int) : Option Int := if 48 ≤ ch p ∧ ch p ≤ 57 then (if (dgs ch 4 p 0).2 = due then some (blk ch (ptk ch (dgs ch 4 p 0).1)) else none) else some p
section NUC
variable {S0 S S' : ZS} {ch : Int → Int} {N p q a : Int} {o : Int32 × ZS} {x1 x2 x3 : Int32}
theorem rn_11 : ∀ (n : Nat) (S : ZS) (q : Int), (a ≤ q ∧ q ≤ N) → 0 ≤ a → (∀ j, a ≤ j → j < q → ch j = 46) → (0 ≤ x2.toInt ∧ x2.toInt ≤ 10000) → LW S ch N q → FR (fun a => a = 23) S0 S → f_X2_readNumber_11 n 23 x1 x2 x3 S = some o → (o.1.toInt = 0 ∨ o.1.toInt = 1) ∧ (o.1.toInt = 1 ↔ x3.toInt = x1.toInt) ∧ LW o.2 ch N (blk ch (ptk ch a)) ∧ FR (fun a => a = 23) S0 o.2 ∧ blk ch (ptk ch a) ≤ N := by
  intro n
  induction n with
  | zero => intro S q _ _ _ _ _ _ hf; cases hf
  | succ n ih =>
    intro S q haq ha hs h2 h hF hf
    have hf : f_X2_readNumber_11s (f_X2_readNumber_11 n) 23 x1 x2 x3 S = some o := hf
    obtain ⟨hT, ⟨k23, p2, k2⟩, ⟨hc, hN1, hn⟩, hcb, h44, hp⟩ := id h
    have fin : ch q ≠ 46 → f_X2_readNumber_54 23 x1 x2 x3 S = some o → (o.1.toInt = 0 ∨ o.1.toInt = 1) ∧ (o.1.toInt = 1 ↔ x3.toInt = x1.toInt) ∧ LW o.2 ch N (blk ch (ptk ch a)) ∧ FR (fun a => a = 23) S0 o.2 ∧ blk ch (ptk ch a) ≤ N := by
      intro hs2 hf
      have e : ptk ch a = q := ptk_e ⟨haq.1, hs, hs2⟩
      rw [e]
      unfold f_X2_readNumber_54 at hf
      obtain ⟨-, hf⟩ := m_chkE hf
      obtain ⟨⟨r1, S1c⟩, h_r1, hf⟩ := m_calE hf
      dsimp only at hf
      obtain ⟨d1, d2, d3, d4⟩ := lw_bl h h_r1
      dsimp only at d2 d3
      rcases m_ifE hf with ⟨c1, hf⟩ | ⟨c1, hf⟩
      · skip
        replace c1 := ti_eqP (a := x3) (b := x1) c1 rfl rfl
        unfold f_X2_readNumber_73 f_X2_readNumber_78 at hf
        obtain ⟨-, hf⟩ := m_chkE hf
        cases hf
        exact ⟨Or.inr rfl, ⟨fun _ => by omega, fun _ => rfl⟩, d2, fr_t hF d3, by omega⟩
      · skip
        replace c1 := ti_eqN (a := x3) (b := x1) c1 rfl rfl
        obtain ⟨-, hf⟩ := m_chkE hf
        obtain ⟨⟨r2, S2c⟩, h_r2, hf⟩ := m_calE hf
        dsimp only at hf
        obtain ⟨b1, b2, b3⟩ := lw_no (x1 := 7) d2 (by decide) (by omega) h_r2
        dsimp only at b1 b2 b3
        rcases m_ifE hf with ⟨c2, hf⟩ | ⟨c2, hf⟩
        · skip
          replace c2 := ti_eqP (a := r2) (b := (0 : Int32)) c2 rfl (show (0 : Int32).toInt = 0 from rfl)
          unfold f_X2_readNumber_78 at hf
          obtain ⟨-, hf⟩ := m_chkE hf
          cases hf
          exact ⟨Or.inl rfl, ⟨fun e => absurd (show (0 : Int32).toInt = 1 from e) (by decide), fun e => by omega⟩, b2, fr_t hF (fr_t d3 b3), by omega⟩
        · skip
          replace c2 := ti_eqN (a := r2) (b := (0 : Int32)) c2 rfl (show (0 : Int32).toInt = 0 from rfl)
          omega
    unfold f_X2_readNumber_11s at hf
    obtain ⟨-, hf⟩ := m_chkE hf
    obtain ⟨-, hf⟩ := m_chkE hf
    replace hf := m_calY hf p2
    obtain ⟨-, hf⟩ := m_chkE hf
    obtain ⟨r2, h_r2, hf⟩ := m_calR hf (fun _ h => ro_X6_size h)
    dsimp only at hf
    have p_r2 := pc_X6_size h_r2
    dsimp only at p_r2
    have q2 : r2.toInt = N := by rw [p_r2]; exact hN1
    rcases m_ifE hf with ⟨c1, hf⟩ | ⟨c1, hf⟩
    · skip
      replace c1 := ti_leP (a := r2) (b := (zI S 4 23)) c1 rfl rfl
      exact fin (by rw [lw_out h (by omega)]; decide) hf
    · skip
      replace c1 := ti_leN (a := r2) (b := (zI S 4 23)) c1 rfl rfl
      obtain ⟨-, hf⟩ := m_chkE hf
      replace hf := m_calY hf p2
      obtain ⟨-, hf⟩ := m_chkE hf
      obtain ⟨-, hf⟩ := m_chkE hf
      obtain ⟨r4, h_r4, hf⟩ := m_calR hf (fun _ h => ro_X6_at h)
      dsimp only at hf
      have p_r4 := pc_X6_at h_r4
      dsimp only at p_r4
      rw [hc, h44] at p_r4
      rcases m_ifE hf with ⟨c2, hf⟩ | ⟨c2, hf⟩
      · skip
        replace c2 := ti_eqP (a := r4) (b := (46 : Int32)) c2 rfl (show (46 : Int32).toInt = 46 from rfl)
        obtain ⟨-, hf⟩ := m_chkE hf
        obtain ⟨v5, e_v5, hf⟩ := m_bndE hf
        have t_v5 : v5.toInt = (zI S 4 23).toInt + 1 := ti_add e_v5 rfl (show (1 : Int32).toInt = 1 from rfl) (by omega) (by omega)
        obtain ⟨-, hf⟩ := m_chkE hf
        obtain ⟨S6, e_S6, hf⟩ := m_bndE hf
        refine ih S6 (q + 1) (by omega) ha (fun j j0 j1 => ?_) h2 (lw_at h e_S6 (by omega) (by omega)) (fr_t hF (fr_I e_S6)) hf
        by_cases e : j = q
        · rw [e]; omega
        · exact hs j j0 (by omega)
      · skip
        replace c2 := ti_eqN (a := r4) (b := (46 : Int32)) c2 rfl (show (46 : Int32).toInt = 46 from rfl)
        exact fin (by omega) hf
/-- the class reads a move's number -/
theorem p_readNumber (h : LW S ch N p) (hpN : p ≤ N) (hd : 48 ≤ ch p ∧ ch p ≤ 57) (hf : f_X2_readNumber 23 x1 S = some o) : (o.1.toInt = 1 ∧ ∃ e, nuP ch x1.toInt p = some e ∧ LW o.2 ch N e ∧ FR (fun a => a = 23) S o.2 ∧ e ≤ N) ∨ (o.1.toInt = 0 ∧ nuP ch x1.toInt p = none ∧ (∃ p', LW o.2 ch N p') ∧ FR (fun a => a = 23) S o.2) := by
  have hf : f_X2_readNumber_0 23 x1 S = some o := hf
  have h4 := h.2.2.2.2
  have hn := h.2.2.1.2.2
  have out : ∀ i, N ≤ i → ch i = 0 := fun i hi => lw_out h hi
  unfold f_X2_readNumber_0 at hf
  obtain ⟨-, hf⟩ := m_chkE hf
  obtain ⟨-, hf⟩ := m_chkE hf
  obtain ⟨⟨r1, S1c⟩, h_r1, hf⟩ := m_calE hf
  dsimp only at hf
  obtain ⟨d1, d2, d3⟩ := p_readDigits (k := 4) h (by omega) (Or.inr rfl) rfl h_r1
  dsimp only at d1 d2 d3
  have dN := dgs_N out 4 p 0 hpN
  have db := dgs_b (ch := ch) 4 p 0
  obtain ⟨g1, g2, g3, g4, g5⟩ := rn_11 (S0 := S) (a := (dgs ch 4 p 0).1) mFuel S1c _ ⟨Int.le_refl _, dN⟩ (by omega) (fun j j0 j1 => by omega) (by omega) d2 d3 hf
  unfold nuP
  rw [if_pos hd]
  rw [d1] at g2
  by_cases e : (dgs ch 4 p 0).2 = x1.toInt
  · rw [if_pos e]
    exact Or.inl ⟨g2.2 e, _, rfl, g3, g4, g5⟩
  · rw [if_neg e]
    exact Or.inr ⟨g1.resolve_right (fun c => e (g2.1 c)), rfl, ⟨_, g3⟩, g4⟩
end NUC
def isSg (c : Int) : Prop := isL c ∨ isD c ∨ c = 61 ∨ c = 45 ∨ c = 43 ∨ c = 35
/-- a row of signs -/
def SGr (ch : Int → Int) (a b : Int) : Prop := a ≤ b ∧ (∀ j, a ≤ j → j < b → isSg (ch j)) ∧ ¬ isSg (ch b)
theorem sg_u {ch : Int → Int} {a b c : Int} (h : SGr ch a b) (g : SGr ch a c) : b = c := by
  obtain ⟨h1, h2, h3⟩ := h
  obtain ⟨g1, g2, g3⟩ := g
  rcases Int.lt_trichotomy b c with l | l | l
  · exact absurd (g2 b h1 l) h3
  · exact l
  · exact absurd (h2 c g1 l) g3
noncomputable def sgk (ch : Int → Int) (p : Int) : Int := @dite _ (∃ b, SGr ch p b) (Classical.propDecidable _) (fun h => Classical.choose h) (fun _ => p)
theorem sgk_e {ch : Int → Int} {p b : Int} (h : SGr ch p b) : sgk ch p = b := by
  have h2 : ∃ b, SGr ch p b := ⟨b, h⟩
  unfold sgk
  rw [dif_pos h2]
  exact sg_u (Classical.choose_spec h2) h
section SGC
variable {S0 S S' : ZS} {ch : Int → Int} {N p q a : Int} {o : Int32 × ZS}
theorem sk_0 : ∀ (n : Nat) (S : ZS) (q : Int), (a ≤ q ∧ q ≤ N) → 0 ≤ a → (∀ j, a ≤ j → j < q → isSg (ch j)) → LW S ch N q → FR (fun a => a = 23) S0 S → f_X2_skipSigns_0 n 23 S = some o → ∃ e, SGr ch a e ∧ LW o.2 ch N e ∧ FR (fun a => a = 23) S0 o.2 ∧ e ≤ N := by
  intro n
  induction n with
  | zero => intro S q _ _ _ _ _ hf; cases hf
  | succ n ih =>
    intro S q haq ha hs h hF hf
    have hf : f_X2_skipSigns_0s (f_X2_skipSigns_0 n) 23 S = some o := hf
    obtain ⟨hT, ⟨k23, p2, k2⟩, ⟨hc, hN1, hn⟩, hcb, h44, hp⟩ := id h
    unfold f_X2_skipSigns_0s at hf
    obtain ⟨-, hf⟩ := m_chkE hf
    obtain ⟨-, hf⟩ := m_chkE hf
    replace hf := m_calY hf p2
    obtain ⟨-, hf⟩ := m_chkE hf
    obtain ⟨r2, h_r2, hf⟩ := m_calR hf (fun _ h => ro_X6_size h)
    dsimp only at hf
    have p_r2 := pc_X6_size h_r2
    dsimp only at p_r2
    have q2 : r2.toInt = N := by rw [p_r2]; exact hN1
    rcases m_ifE hf with ⟨c1, hf⟩ | ⟨c1, hf⟩
    · skip
      replace c1 := ti_leP (a := r2) (b := (zI S 4 23)) c1 rfl rfl
      unfold f_X2_skipSigns_44 at hf
      cases hf
      try dsimp only
      refine ⟨q, ⟨haq.1, hs, ?_⟩, h, hF, haq.2⟩
      rw [lw_out h (by omega)]
      unfold isSg isL isD; omega
    · skip
      replace c1 := ti_leN (a := r2) (b := (zI S 4 23)) c1 rfl rfl
      obtain ⟨-, hf⟩ := m_chkE hf
      replace hf := m_calY hf p2
      obtain ⟨-, hf⟩ := m_chkE hf
      obtain ⟨-, hf⟩ := m_chkE hf
      obtain ⟨r4, h_r4, hf⟩ := m_calR hf (fun _ h => ro_X6_at h)
      dsimp only at hf
      have p_r4 := pc_X6_at h_r4
      dsimp only at p_r4
      rw [hc, h44] at p_r4
      obtain ⟨r5, h_r5, hf⟩ := m_calR hf (fun _ h => ro_X2_isSign h)
      dsimp only at hf
      have p_r5 := pc_X2_isSign h_r5
      dsimp only at p_r5
      rw [p_r4] at p_r5
      rcases m_ifE hf with ⟨c2, hf⟩ | ⟨c2, hf⟩
      · skip
        replace c2 := ti_eqP (a := r5) (b := (0 : Int32)) c2 rfl (show (0 : Int32).toInt = 0 from rfl)
        unfold f_X2_skipSigns_44 at hf
        cases hf
        try dsimp only
        exact ⟨q, ⟨haq.1, hs, fun g => by have := p_r5.2.2 g; omega⟩, h, hF, haq.2⟩
      · skip
        replace c2 := ti_eqN (a := r5) (b := (0 : Int32)) c2 rfl (show (0 : Int32).toInt = 0 from rfl)
        obtain ⟨-, hf⟩ := m_chkE hf
        obtain ⟨v6, e_v6, hf⟩ := m_bndE hf
        have t_v6 : v6.toInt = (zI S 4 23).toInt + 1 := ti_add e_v6 rfl (show (1 : Int32).toInt = 1 from rfl) (by omega) (by omega)
        obtain ⟨-, hf⟩ := m_chkE hf
        obtain ⟨S7, e_S7, hf⟩ := m_bndE hf
        refine ih S7 (q + 1) (by omega) ha (fun j j0 j1 => ?_) (lw_at h e_S7 (by omega) (by omega)) (fr_t hF (fr_I e_S7)) hf
        by_cases e : j = q
        · rw [e]; exact p_r5.2.1 (by omega)
        · exact hs j j0 (by omega)
theorem p_skipSigns (h : LW S ch N p) (hpN : p ≤ N) (hf : f_X2_skipSigns 23 S = some o) : SGr ch p (sgk ch p) ∧ LW o.2 ch N (sgk ch p) ∧ FR (fun a => a = 23) S o.2 ∧ sgk ch p ≤ N := by
  obtain ⟨e, g1, g2⟩ := sk_0 (S0 := S) mFuel S p ⟨Int.le_refl _, hpN⟩ h.2.2.2.2.2.1 (fun j j0 j1 => by omega) h fr_0 hf
  rw [sgk_e g1]
  exact ⟨g1, g2⟩
end SGC
