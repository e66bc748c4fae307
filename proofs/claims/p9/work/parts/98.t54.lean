/-- the marks of the reference's node k -/
def NKr (A : Nat → Nat → Int32) (k : Nat) (K : List Int) : Prop := (A 12 k).toInt = (K.length : Int) ∧ ∀ i : Nat, i < K.length → (A 13 (4 * k + i)).toInt = wA K (i : Int)
/-- only the marks of node k change -/
def RFk (I I' : Nat → Int32) (A A' : Nat → Nat → Int32) (k : Nat) : Prop := (∀ j, j ≠ 37 → I' j = I j) ∧ (∀ j, j ≠ 12 → j ≠ 13 → A' j = A j) ∧ (∀ i, i ≠ k → A' 12 i = A 12 i) ∧ ∀ i, (i < 4 * k ∨ 4 * k + 4 ≤ i) → A' 13 i = A 13 i
section NUR
variable {I I0 I1 I2 I' : Nat → Int32} {A A0 A1 A2 A' : Nat → Nat → Int32} {ch : Int → Int} {N p q a : Int} {k : Nat} {K : List Int} {o : Int32 × MS} {x1 x2 x3 x4 x5 : Int32}
theorem rfk_0 : RFk I I A A k := ⟨fun _ _ => rfl, fun _ _ _ => rfl, fun _ _ => rfl, fun _ _ => rfl⟩
theorem rfk_t (h : RFk I I1 A A1 k) (g : RFk I1 I2 A1 A2 k) : RFk I I2 A A2 k := ⟨fun j hj => (g.1 j hj).trans (h.1 j hj), fun j a b => (g.2.1 j a b).trans (h.2.1 j a b), fun i hi => (g.2.2.1 i hi).trans (h.2.2.1 i hi), fun i hi => (g.2.2.2 i hi).trans (h.2.2.2 i hi)⟩
theorem rfk_i (h : ∀ j, j ≠ 37 → I' j = I j) : RFk I I' A A k := ⟨h, fun _ _ _ => rfl, fun _ _ => rfl, fun _ _ => rfl⟩
theorem nu_65 : ∀ (n : Nat) (I : Nat → Int32) (q : Int), (a ≤ q ∧ q ≤ N) → 0 ≤ a → (∀ j, a ≤ j → j < q → ch j = 46) → (0 ≤ x1.toInt ∧ x1.toInt ≤ 10000) → RV I A ch N q → (∀ j, j ≠ 37 → I j = I0 j) → f_readMoveNumber_65 n x1 x2 I A = some o → (x2.toInt = (I0 29).toInt ∧ o.1.toInt = 0 ∧ RV o.2.1 o.2.2 ch N (blk ch (ptk ch a)) ∧ o.2.2 = A ∧ (∀ j, j ≠ 37 → o.2.1 j = I0 j) ∧ blk ch (ptk ch a) ≤ N) ∨ (x2.toInt ≠ (I0 29).toInt ∧ 0 < o.1.toInt ∧ o.2.2 = A ∧ ∀ j, j ≠ 37 → o.2.1 j = I0 j) := by
  intro n
  induction n with
  | zero => intro I q _ _ _ _ _ _ hf; cases hf
  | succ n ih =>
    intro I q haq ha hs h1 h hI hf
    have hf : f_readMoveNumber_65s (f_readMoveNumber_65 n) x1 x2 I A = some o := hf
    obtain ⟨-, ⟨hc, hN, hn⟩, hcb, h37, hp⟩ := id h
    have i29 : (I 29).toInt = (I0 29).toInt := by rw [hI 29 (by decide)]
    unfold f_readMoveNumber_65s at hf
    obtain ⟨r1, h_r1, hf⟩ := m_clR hf (fun _ h => rro_look h)
    have p_r1 := pc_look h_r1
    dsimp only at p_r1
    have q1 := rv_lk h h_r1
    dsimp only at q1
    clear p_r1
    rcases m_ifE hf with ⟨c1, hf⟩ | ⟨c1, hf⟩
    · skip
      replace c1 := ti_eqP (a := r1) (b := (46 : Int32)) c1 rfl (show (46 : Int32).toInt = 46 from rfl)
      obtain ⟨v4, e_v4, hf⟩ := m_bndE hf
      have t_v4 : v4.toInt = (I 37).toInt + 1 := ti_add e_v4 rfl (show (1 : Int32).toInt = 1 from rfl) (by omega) (by omega)
      obtain ⟨I5, e_I5, hf⟩ := m_bndE hf
      have qN : q < N := by
        by_cases e : q < N
        · exact e
        · have := rv_out h (show N ≤ q by omega); omega
      refine ih I5 (q + 1) (by omega) ha (fun j j0 j1 => ?_) h1 (rv_at h e_I5 (by omega) (by omega)) (fun j hj => by rw [e_I5, upd_ne hj]; exact hI j hj) hf
      by_cases e : j = q
      · rw [e]; omega
      · exact hs j j0 (by omega)
    · skip
      replace c1 := ti_eqN (a := r1) (b := (46 : Int32)) c1 rfl (show (46 : Int32).toInt = 46 from rfl)
      rcases m_ifE hf with ⟨c2, hf⟩ | ⟨c2, hf⟩
      · skip
        replace c2 := ti_eqP (a := x2) (b := (I 29)) c2 rfl rfl
        obtain ⟨⟨r2, Ic2, Ac2⟩, h_r2, hf⟩ := m_clE hf
        dsimp only at hf
        have e : ptk ch a = q := ptk_e ⟨haq.1, hs, by omega⟩
        obtain ⟨b1, b2, b3, b4, b5⟩ := rv_bl h h_r2
        dsimp only at b2 b3 b4
        cases hf
        try dsimp only
        rw [e]
        exact Or.inl ⟨by omega, rfl, b2, b3, fun j hj => (b4 j hj).trans (hI j hj), by omega⟩
      · skip
        replace c2 := ti_eqN (a := x2) (b := (I 29)) c2 rfl rfl
        obtain ⟨r3, h_r3, hf⟩ := m_clR hf (fun _ h => rro_fault h)
        have q3 := v_fault (x1 := 7) (x2 := x1) (by decide) (by omega) h_r3
        dsimp only at q3
        have z7 : (7 : Int32).toInt = 7 := rfl
        cases hf
        try dsimp only
        exact Or.inr ⟨by omega, by show 0 < r3.toInt; omega, rfl, hI⟩
theorem nu_21 : ∀ (n : Nat) (x2 x3 : Int32) (I : Nat → Int32) (q : Int) (c : Nat), x3.toInt = 4 - (c : Int) → c ≤ 4 → DB c x2.toInt → q ≤ N → (0 ≤ x1.toInt ∧ x1.toInt ≤ 10000) → RV I A ch N q → (∀ j, j ≠ 37 → I j = I0 j) → f_readMoveNumber_21 n x1 x2 x3 I A = some o → ((dgs ch c q x2.toInt).2 = (I0 29).toInt ∧ o.1.toInt = 0 ∧ RV o.2.1 o.2.2 ch N (blk ch (ptk ch (dgs ch c q x2.toInt).1)) ∧ o.2.2 = A ∧ (∀ j, j ≠ 37 → o.2.1 j = I0 j) ∧ blk ch (ptk ch (dgs ch c q x2.toInt).1) ≤ N) ∨ ((dgs ch c q x2.toInt).2 ≠ (I0 29).toInt ∧ 0 < o.1.toInt ∧ o.2.2 = A ∧ ∀ j, j ≠ 37 → o.2.1 j = I0 j) := by
  intro n
  induction n with
  | zero => intro x2 x3 I q c _ _ _ _ _ _ _ hf; cases hf
  | succ n ih =>
    intro x2 x3 I q c h3 hc4 hD hqN h1 h hI hf
    have hf : f_readMoveNumber_21s (f_readMoveNumber_21 n) x1 x2 x3 I A = some o := hf
    obtain ⟨-, ⟨hc, hN, hn⟩, hcb, h37, hp⟩ := id h
    have b0 := hcb q
    have hD2 := hD
    unfold DB at hD2
    have fin : (c = 0 ∨ ¬ (48 ≤ ch q ∧ ch q ≤ 57)) → f_readMoveNumber_65 mFuel x1 x2 I A = some o → ((dgs ch c q x2.toInt).2 = (I0 29).toInt ∧ o.1.toInt = 0 ∧ RV o.2.1 o.2.2 ch N (blk ch (ptk ch (dgs ch c q x2.toInt).1)) ∧ o.2.2 = A ∧ (∀ j, j ≠ 37 → o.2.1 j = I0 j) ∧ blk ch (ptk ch (dgs ch c q x2.toInt).1) ≤ N) ∨ ((dgs ch c q x2.toInt).2 ≠ (I0 29).toInt ∧ 0 < o.1.toInt ∧ o.2.2 = A ∧ ∀ j, j ≠ 37 → o.2.1 j = I0 j) := by
      intro hz hf
      have e : dgs ch c q x2.toInt = (q, x2.toInt) := by
        rcases hz with e | e
        · subst e; rfl
        · cases c with
          | zero => rfl
          | succ c => exact dgs_n e
      rw [e]
      exact nu_65 mFuel I q ⟨Int.le_refl _, hqN⟩ (by omega) (fun j j0 j1 => by omega) h1 h hI hf
    unfold f_readMoveNumber_21s at hf
    obtain ⟨r1, h_r1, hf⟩ := m_clR hf (fun _ h => rro_look h)
    have p_r1 := pc_look h_r1
    dsimp only at p_r1
    have q1 := rv_lk h h_r1
    dsimp only at q1
    clear p_r1
    obtain ⟨r2, h_r2, hf⟩ := m_clR hf (fun _ h => rro_isDigit h)
    have p_r2 := pc_isDigit h_r2
    dsimp only at p_r2
    rw [q1] at p_r2
    unfold isD at p_r2
    rcases m_ifE hf with ⟨c1, hf⟩ | ⟨c1, hf⟩
    · skip
      replace c1 := ti_eqP (a := r2) (b := (0 : Int32)) c1 rfl (show (0 : Int32).toInt = 0 from rfl)
      exact fin (Or.inr (fun g => by have := p_r2.2.2 g; omega)) hf
    · skip
      replace c1 := ti_eqN (a := r2) (b := (0 : Int32)) c1 rfl (show (0 : Int32).toInt = 0 from rfl)
      rcases m_ifE hf with ⟨c2, hf⟩ | ⟨c2, hf⟩
      · skip
        replace c2 := ti_leP (a := (4 : Int32)) (b := x3) c2 (show (4 : Int32).toInt = 4 from rfl) rfl
        exact fin (Or.inl (by omega)) hf
      · skip
        replace c2 := ti_leN (a := (4 : Int32)) (b := x3) c2 (show (4 : Int32).toInt = 4 from rfl) rfl
        obtain ⟨v3, e_v3, hf⟩ := m_bndE hf
        have t_v3 : v3.toInt = 10 * x2.toInt := ti_mul e_v3 (show (10 : Int32).toInt = 10 from rfl) rfl (by omega) (by omega)
        obtain ⟨r4, h_r4, hf⟩ := m_clR hf (fun _ h => rro_look h)
        have p_r4 := pc_look h_r4
        dsimp only at p_r4
        have q4 := rv_lk h h_r4
        dsimp only at q4
        clear p_r4
        have dg := p_r2.2.1 (by omega)
        obtain ⟨c', rfl⟩ : ∃ c', c = c' + 1 := ⟨c - 1, by omega⟩
        have qN : q < N := by
          by_cases e : q < N
          · exact e
          · have := rv_out h (show N ≤ q by omega); omega
        obtain ⟨v5, e_v5, hf⟩ := m_bndE hf
        have t_v5 : v5.toInt = v3.toInt + r4.toInt := ti_add e_v5 rfl rfl (by omega) (by omega)
        obtain ⟨v6, e_v6, hf⟩ := m_bndE hf
        have t_v6 : v6.toInt = v5.toInt - 48 := ti_sub e_v6 rfl (show (48 : Int32).toInt = 48 from rfl) (by omega) (by omega)
        obtain ⟨v7, e_v7, hf⟩ := m_bndE hf
        have t_v7 : v7.toInt = x3.toInt + 1 := ti_add e_v7 rfl (show (1 : Int32).toInt = 1 from rfl) (by omega) (by omega)
        obtain ⟨v8, e_v8, hf⟩ := m_bndE hf
        have t_v8 : v8.toInt = (I 37).toInt + 1 := ti_add e_v8 rfl (show (1 : Int32).toInt = 1 from rfl) (by omega) (by omega)
        obtain ⟨I9, e_I9, hf⟩ := m_bndE hf
        rw [dgs_y dg]
        have e6 : v6.toInt = 10 * x2.toInt + (ch q - 48) := by omega
        rw [← e6]
        exact ih v6 v7 I9 (q + 1) c' (by omega) (by omega) (by unfold DB; omega) (by omega) h1 (rv_at h e_I9 (by omega) (by omega)) (fun j hj => by rw [e_I9, upd_ne hj]; exact hI j hj) hf
/-- the reference reads a move's number -/
theorem v_readMoveNumber (h : RV I A ch N p) (hpN : p ≤ N) (hf : f_readMoveNumber I A = some o) : (o.1.toInt = 0 ∧ ∃ e, nuP ch (I 29).toInt p = some e ∧ RV o.2.1 o.2.2 ch N e ∧ o.2.2 = A ∧ (∀ j, j ≠ 37 → o.2.1 j = I j) ∧ e ≤ N) ∨ (0 < o.1.toInt ∧ nuP ch (I 29).toInt p = none ∧ o.2.2 = A ∧ ∀ j, j ≠ 37 → o.2.1 j = I j) := by
  have hf : f_readMoveNumber_0 I A = some o := hf
  obtain ⟨-, ⟨hc, hN, hn⟩, hcb, h37, hp⟩ := id h
  have z0 : (0 : Int32).toInt = 0 := rfl
  unfold f_readMoveNumber_0 at hf
  obtain ⟨r1, h_r1, hf⟩ := m_clR hf (fun _ h => rro_look h)
  have p_r1 := pc_look h_r1
  dsimp only at p_r1
  have q1 := rv_lk h h_r1
  dsimp only at q1
  clear p_r1
  obtain ⟨r2, h_r2, hf⟩ := m_clR hf (fun _ h => rro_isDigit h)
  have p_r2 := pc_isDigit h_r2
  dsimp only at p_r2
  rw [q1] at p_r2
  unfold isD at p_r2
  rcases m_ifE hf with ⟨c1, hf⟩ | ⟨c1, hf⟩
  · skip
    replace c1 := ti_eqP (a := r2) (b := (0 : Int32)) c1 rfl (show (0 : Int32).toInt = 0 from rfl)
    cases hf
    try dsimp only
    exact Or.inl ⟨rfl, p, if_neg (fun g => by have := p_r2.2.2 g; omega), h, rfl, fun _ _ => rfl, hpN⟩
  · skip
    replace c1 := ti_eqN (a := r2) (b := (0 : Int32)) c1 rfl (show (0 : Int32).toInt = 0 from rfl)
    have dg := p_r2.2.1 (by omega)
    have g := nu_21 (I0 := I) mFuel 0 0 I p 4 (by decide) (by decide) (by unfold DB; omega) hpN (by omega) h (fun _ _ => rfl) hf
    rw [z0] at g
    unfold nuP
    rw [if_pos dg]
    rcases g with ⟨g1, g2, g3, g4, g5, g6⟩ | ⟨g1, g2, g3⟩
    · rw [if_pos g1]; exact Or.inl ⟨g2, _, rfl, g3, g4, g5, g6⟩
    · rw [if_neg g1]; exact Or.inr ⟨g2, rfl, g3⟩
/-- a mark more -/
theorem v_addMarkTo {g nd : Int} (h1 : x1.toInt = g) (h2 : x2.toInt = nd) (hg : 0 ≤ g ∧ g ≤ 1) (hnd : 0 ≤ nd ∧ nd ≤ 300) (hk : (k : Int) = 301 * g + nd) (hA : TK A) (hm : NKr A k K) (hl : (K.length : Int) ≤ 3) (h3 : 0 ≤ x3.toInt ∧ x3.toInt ≤ 255) (hf : f_addMarkTo x1 x2 x3 I A = some o) : o.2.1 = I ∧ TK o.2.2 ∧ NKr o.2.2 k (K ++ [x3.toInt]) ∧ RFk I I A o.2.2 k := by
  have hf : f_addMarkTo_0 x1 x2 x3 I A = some o := hf
  obtain ⟨m1, m2⟩ := hm
  have q4 : ∀ v : Int32, v.toInt = (k : Int) → ∀ w : Int32, w = A 12 v.toNatClampNeg → w.toInt = (K.length : Int) := fun v hv w hw => by rw [hw, cl_n hv]; exact m1
  unfold f_addMarkTo_0 at hf
  obtain ⟨v1, e_v1, hf⟩ := m_bndE hf
  have t_v1 : v1.toInt = 301 * x1.toInt := ti_mul e_v1 (show (301 : Int32).toInt = 301 from rfl) rfl (by omega) (by omega)
  obtain ⟨v2, e_v2, hf⟩ := m_bndE hf
  have t_v2 : v2.toInt = v1.toInt + x2.toInt := ti_add e_v2 rfl rfl (by omega) (by omega)
  obtain ⟨v3, e_v3, hf⟩ := m_bndE hf
  have t_v3 : v3.toInt = 4 * v2.toInt := ti_mul e_v3 (show (4 : Int32).toInt = 4 from rfl) rfl (by omega) (by omega)
  obtain ⟨-, hf⟩ := m_chkE hf
  obtain ⟨v4, e_v4, hf⟩ := m_bndE hf
  have t4 := q4 v2 (by omega) v4 e_v4
  obtain ⟨v5, e_v5, hf⟩ := m_bndE hf
  have t_v5 : v5.toInt = v3.toInt + v4.toInt := ti_add e_v5 rfl rfl (by omega) (by omega)
  obtain ⟨-, hf⟩ := m_chkE hf
  obtain ⟨A6, e_A6, hf⟩ := m_bndE hf
  have x5n : v5.toNatClampNeg = 4 * k + K.length := cl_n (by omega)
  rw [x5n] at e_A6
  have o6 : ∀ j, j ≠ 13 → A6 j = A j := fun j hj => by rw [e_A6]; exact va_up_ne _ _ hj
  have s6 : A6 13 = upd (A 13) (4 * k + K.length) x3 := by rw [e_A6]; exact va_up_self _ _ _
  have K6 : TK A6 := by rw [e_A6]; exact tk_u hA (show (0 : Int) ≤ x3.toInt by omega) (show x3.toInt ≤ (255 : Int) by omega)
  obtain ⟨-, hf⟩ := m_chkE hf
  obtain ⟨v7, e_v7, hf⟩ := m_bndE hf
  have t7 := q4 v2 (by omega) v7 (by rw [e_v7, o6 12 (by decide)])
  obtain ⟨v8, e_v8, hf⟩ := m_bndE hf
  have t_v8 : v8.toInt = v7.toInt + 1 := ti_add e_v8 rfl (show (1 : Int32).toInt = 1 from rfl) (by omega) (by omega)
  obtain ⟨-, hf⟩ := m_chkE hf
  obtain ⟨A9, e_A9, hf⟩ := m_bndE hf
  cases hf
  try dsimp only
  have x2n : v2.toNatClampNeg = k := cl_n (by omega)
  rw [x2n] at e_A9
  have o9 : ∀ j, j ≠ 12 → A9 j = A6 j := fun j hj => by rw [e_A9]; exact va_up_ne _ _ hj
  have s9 : A9 12 = upd (A6 12) k v8 := by rw [e_A9]; exact va_up_self _ _ _
  have ll : ((K ++ [x3.toInt]).length : Int) = (K.length : Int) + 1 := app_len
  refine ⟨rfl, by rw [e_A9]; exact tk_u K6 (show (0 : Int) ≤ v8.toInt by omega) (show v8.toInt ≤ (4 : Int) by omega), ⟨by rw [s9, upd_self, ll]; omega, fun i hi => ?_⟩, fun _ _ => rfl, fun j j1 j2 => (o9 j j1).trans (o6 j j2), fun i hi => by rw [s9, upd_ne hi, o6 12 (by decide)], fun i hi => by rw [o9 13 (by decide), s6, upd_ne (by omega)]⟩
  rw [o9 13 (by decide), s6]
  by_cases e : i = K.length
  · rw [e, upd_self, wA_app, if_pos rfl]
  · rw [upd_ne (by omega), wA_app, if_neg (by omega)]
    exact m2 i (by omega)
end NUR
section MKR
variable {I I0 : Nat → Int32} {A A0 : Nat → Nat → Int32} {ch : Int → Int} {N p q p0 : Int} {k : Nat} {K : List Int} {o : Int32 × MS} {x1 x2 x3 x4 x5 t0 : Int32} {g nd : Int}
/-- one mark with $, by the reference -/
def MDr (self : Int32 → Int32 → (Nat → Int32) → (Nat → Nat → Int32) → Option (Int32 × MS)) (x1 x2 : Int32) (I : Nat → Int32) (A : Nat → Nat → Int32) (ch : Int → Int) (N : Int) (k : Nat) (K : List Int) (p : Int) (o : Int32 × MS) : Prop := (0 < o.1.toInt ∧ bdM ch p K ∧ RFk I o.2.1 A o.2.2 k) ∨ (¬ bdM ch p K ∧ ∃ I2 A2, RV I2 A2 ch N (blk ch (dgs ch 3 (p + 1) 0).1) ∧ RFk I I2 A A2 k ∧ NKr A2 k (K ++ [(dgs ch 3 (p + 1) 0).2]) ∧ BL ch (dgs ch 3 (p + 1) 0).1 (blk ch (dgs ch 3 (p + 1) 0).1) ∧ blk ch (dgs ch 3 (p + 1) 0).1 ≤ N ∧ self x1 x2 I2 A2 = some o)
theorem md_221 {self144 : Int32 → Int32 → (Nat → Int32) → (Nat → Nat → Int32) → Option (Int32 × MS)} (h1 : x1.toInt = g) (h2 : x2.toInt = nd) (hg : 0 ≤ g ∧ g ≤ 1) (hnd : 0 ≤ nd ∧ nd ≤ 300) (hk : (k : Int) = 301 * g + nd) (hm : NKr A k K) (hl : (K.length : Int) ≤ 4) (hp : 0 ≤ p ∧ p < N) (h3 : x3.toInt = p) (h4 : x4.toInt = (dgs ch 3 (p + 1) 0).2) (h5 : x5.toInt = (dgs ch 3 (p + 1) 0).1 - (p + 1)) (h : RV I A ch N (dgs ch 3 (p + 1) 0).1) (hI : ∀ j, j ≠ 37 → I j = I0 j) (hf : f_readMarks_221 self144 x1 x2 x3 x4 x5 I A = some o) : MDr self144 x1 x2 I0 A ch N k K p o := by
  obtain ⟨⟨hTI, hTA⟩, ⟨hc, hN, hn⟩, hcb, h37, hp37⟩ := id h
  have dv := dgs_v (ch := ch) 3 (p + 1) 0 (by unfold DB; omega)
  have db := dgs_b (ch := ch) 3 (p + 1) 0
  have dN := dgs_N (ch := ch) (N := N) (fun i hi => rv_out h hi) 3 (p + 1) 0 (by omega)
  have z1 : (1 : Int32).toInt = 1 := rfl
  have z8 : (8 : Int32).toInt = 8 := rfl
  have m1 := hm.1
  have f1 : bdM ch p K → f_readMarks_236 I A = some o → MDr self144 x1 x2 I0 A ch N k K p o := by
    intro hb hf
    unfold f_readMarks_236 at hf
    obtain ⟨r1, h_r1, hf⟩ := m_clR hf (fun _ h => rro_fault h)
    have q1 := v_fault (x1 := 1) (x2 := I 37) (by decide) (by omega) h_r1
    dsimp only at q1
    cases hf
    exact Or.inl ⟨by show 0 < r1.toInt; omega, hb, rfk_i hI⟩
  have f8 : bdM ch p K → f_readMarks_269 x3 I A = some o → MDr self144 x1 x2 I0 A ch N k K p o := by
    intro hb hf
    unfold f_readMarks_269 at hf
    obtain ⟨r1, h_r1, hf⟩ := m_clR hf (fun _ h => rro_fault h)
    have q1 := v_fault (x1 := 8) (x2 := x3) (by decide) (by omega) h_r1
    dsimp only at q1
    cases hf
    exact Or.inl ⟨by show 0 < r1.toInt; omega, hb, rfk_i hI⟩
  have q5 : ∀ v : Int32, v.toInt = (k : Int) → ∀ w : Int32, w = A 12 v.toNatClampNeg → w.toInt = (K.length : Int) := fun v hv w hw => by rw [hw, cl_n hv]; exact m1
  unfold f_readMarks_221 at hf
  rcases m_ifE hf with ⟨c1, hf⟩ | ⟨c1, hf⟩
  · skip
    replace c1 := ti_eqP (a := x5) (b := (0 : Int32)) c1 rfl (show (0 : Int32).toInt = 0 from rfl)
    exact f1 (Or.inl (by omega)) hf
  · skip
    replace c1 := ti_eqN (a := x5) (b := (0 : Int32)) c1 rfl (show (0 : Int32).toInt = 0 from rfl)
    obtain ⟨r1, h_r1, hf⟩ := m_clR hf (fun _ h => rro_look h)
    have p_r1 := pc_look h_r1
    dsimp only at p_r1
    have q1 := rv_lk h h_r1
    dsimp only at q1
    clear p_r1
    obtain ⟨r2, h_r2, hf⟩ := m_clR hf (fun _ h => rro_isDigit h)
    have p_r2 := pc_isDigit h_r2
    dsimp only at p_r2
    rw [q1] at p_r2
    unfold isD at p_r2
    rcases m_ifE hf with ⟨c2, hf⟩ | ⟨c2, hf⟩
    · skip
      replace c2 := ti_eqP (a := r2) (b := (0 : Int32)) c2 rfl (show (0 : Int32).toInt = 0 from rfl)
      rcases m_ifE hf with ⟨c3, hf⟩ | ⟨c3, hf⟩
      · skip
        replace c3 := ti_ltP (a := (255 : Int32)) (b := x4) c3 (show (255 : Int32).toInt = 255 from rfl) rfl
        exact f8 (Or.inr (Or.inr (Or.inl (by omega)))) hf
      · skip
        replace c3 := ti_ltN (a := (255 : Int32)) (b := x4) c3 (show (255 : Int32).toInt = 255 from rfl) rfl
        obtain ⟨v3, e_v3, hf⟩ := m_bndE hf
        have t_v3 : v3.toInt = 301 * x1.toInt := ti_mul e_v3 (show (301 : Int32).toInt = 301 from rfl) rfl (by omega) (by omega)
        obtain ⟨v4, e_v4, hf⟩ := m_bndE hf
        have t_v4 : v4.toInt = v3.toInt + x2.toInt := ti_add e_v4 rfl rfl (by omega) (by omega)
        obtain ⟨-, hf⟩ := m_chkE hf
        obtain ⟨v5, e_v5, hf⟩ := m_bndE hf
        have t5 := q5 v4 (by omega) v5 e_v5
        rcases m_ifE hf with ⟨c4, hf⟩ | ⟨c4, hf⟩
        · skip
          replace c4 := ti_eqP (a := v5) (b := (4 : Int32)) c4 rfl (show (4 : Int32).toInt = 4 from rfl)
          exact f8 (Or.inr (Or.inr (Or.inr (by omega)))) hf
        · skip
          replace c4 := ti_eqN (a := v5) (b := (4 : Int32)) c4 rfl (show (4 : Int32).toInt = 4 from rfl)
          obtain ⟨⟨r6, Ic6, Ac6⟩, h_r6, hf⟩ := m_clE hf
          dsimp only at hf
          obtain ⟨a1, a2, a3, a4⟩ := v_addMarkTo (x3 := x4) h1 h2 hg hnd hk hTA hm (by omega) (by omega) h_r6
          dsimp only at a1 a2 a3 a4
          rw [h4] at a3
          rw [a1] at h_r6 hf
          have R6 : RV I Ac6 ch N (dgs ch 3 (p + 1) 0).1 := rv_A h a2 (a4.2.1 2 (by decide) (by decide))
          obtain ⟨⟨r7, Ic7, Ac7⟩, h_r7, hf⟩ := m_clE hf
          dsimp only at hf
          obtain ⟨b1, b2, b3, b4, b5⟩ := rv_bl R6 h_r7
          dsimp only at b2 b3 b4
          rw [b3] at b2 hf
          refine Or.inr ⟨?_, Ic7, Ac6, b2, ⟨fun j hj => (b4 j hj).trans (hI j hj), a4.2⟩, a3, b1, by omega, hf⟩
          rintro (e | e | e | e)
          · omega
          · have := p_r2.2.2 e; omega
          · omega
          · omega
    · skip
      replace c2 := ti_eqN (a := r2) (b := (0 : Int32)) c2 rfl (show (0 : Int32).toInt = 0 from rfl)
      exact f1 (Or.inr (Or.inl (p_r2.2.1 (by omega)))) hf
theorem md_174 {self144 : Int32 → Int32 → (Nat → Int32) → (Nat → Nat → Int32) → Option (Int32 × MS)} (h1 : x1.toInt = g) (h2 : x2.toInt = nd) (hg : 0 ≤ g ∧ g ≤ 1) (hnd : 0 ≤ nd ∧ nd ≤ 300) (hk : (k : Int) = 301 * g + nd) (hm : NKr A k K) (hl : (K.length : Int) ≤ 4) (hp : 0 ≤ p ∧ p < N) (h3 : x3.toInt = p) : ∀ (n : Nat) (x4 x5 : Int32) (I : Nat → Int32) (q : Int) (c : Nat), x5.toInt = 3 - (c : Int) → q = p + 1 + x5.toInt → c ≤ 3 → DB c x4.toInt → q ≤ N → dgs ch 3 (p + 1) 0 = dgs ch c q x4.toInt → RV I A ch N q → (∀ j, j ≠ 37 → I j = I0 j) → f_readMarks_174 self144 n x1 x2 x3 x4 x5 I A = some o → MDr self144 x1 x2 I0 A ch N k K p o := by
  intro n
  induction n with
  | zero => intro x4 x5 I q c _ _ _ _ _ _ _ _ hf; cases hf
  | succ n ih =>
    intro x4 x5 I q c h5 hq hc4 hD hqN hd h hI hf
    have hf : f_readMarks_174s self144 (f_readMarks_174 self144 n) x1 x2 x3 x4 x5 I A = some o := hf
    obtain ⟨-, ⟨hc, hN, hn⟩, hcb, h37, hp37⟩ := id h
    have b0 := hcb q
    have hD2 := hD
    unfold DB at hD2
    have fin : (c = 0 ∨ ¬ (48 ≤ ch q ∧ ch q ≤ 57)) → f_readMarks_221 self144 x1 x2 x3 x4 x5 I A = some o → MDr self144 x1 x2 I0 A ch N k K p o := by
      intro hz hf
      have e : dgs ch c q x4.toInt = (q, x4.toInt) := by
        rcases hz with e | e
        · subst e; rfl
        · cases c with
          | zero => rfl
          | succ c => exact dgs_n e
      rw [e] at hd
      exact md_221 h1 h2 hg hnd hk hm hl hp h3 (by rw [hd]) (by rw [hd]; show _ = q - (p + 1); omega) (by rw [hd]; exact h) hI hf
    unfold f_readMarks_174s at hf
    obtain ⟨r1, h_r1, hf⟩ := m_clR hf (fun _ h => rro_look h)
    have p_r1 := pc_look h_r1
    dsimp only at p_r1
    have q1 := rv_lk h h_r1
    dsimp only at q1
    clear p_r1
    obtain ⟨r2, h_r2, hf⟩ := m_clR hf (fun _ h => rro_isDigit h)
    have p_r2 := pc_isDigit h_r2
    dsimp only at p_r2
    rw [q1] at p_r2
    unfold isD at p_r2
    rcases m_ifE hf with ⟨c1, hf⟩ | ⟨c1, hf⟩
    · skip
      replace c1 := ti_eqP (a := r2) (b := (0 : Int32)) c1 rfl (show (0 : Int32).toInt = 0 from rfl)
      exact fin (Or.inr (fun g => by have := p_r2.2.2 g; omega)) hf
    · skip
      replace c1 := ti_eqN (a := r2) (b := (0 : Int32)) c1 rfl (show (0 : Int32).toInt = 0 from rfl)
      rcases m_ifE hf with ⟨c2, hf⟩ | ⟨c2, hf⟩
      · skip
        replace c2 := ti_leP (a := (3 : Int32)) (b := x5) c2 (show (3 : Int32).toInt = 3 from rfl) rfl
        exact fin (Or.inl (by omega)) hf
      · skip
        replace c2 := ti_leN (a := (3 : Int32)) (b := x5) c2 (show (3 : Int32).toInt = 3 from rfl) rfl
        obtain ⟨v3, e_v3, hf⟩ := m_bndE hf
        have t_v3 : v3.toInt = 10 * x4.toInt := ti_mul e_v3 (show (10 : Int32).toInt = 10 from rfl) rfl (by omega) (by omega)
        obtain ⟨r4, h_r4, hf⟩ := m_clR hf (fun _ h => rro_look h)
        have p_r4 := pc_look h_r4
        dsimp only at p_r4
        have q4 := rv_lk h h_r4
        dsimp only at q4
        clear p_r4
        have dg := p_r2.2.1 (by omega)
        obtain ⟨c', rfl⟩ : ∃ c', c = c' + 1 := ⟨c - 1, by omega⟩
        have qN : q < N := by
          by_cases e : q < N
          · exact e
          · have := rv_out h (show N ≤ q by omega); omega
        obtain ⟨v5, e_v5, hf⟩ := m_bndE hf
        have t_v5 : v5.toInt = v3.toInt + r4.toInt := ti_add e_v5 rfl rfl (by omega) (by omega)
        obtain ⟨v6, e_v6, hf⟩ := m_bndE hf
        have t_v6 : v6.toInt = v5.toInt - 48 := ti_sub e_v6 rfl (show (48 : Int32).toInt = 48 from rfl) (by omega) (by omega)
        obtain ⟨v7, e_v7, hf⟩ := m_bndE hf
        have t_v7 : v7.toInt = x5.toInt + 1 := ti_add e_v7 rfl (show (1 : Int32).toInt = 1 from rfl) (by omega) (by omega)
        obtain ⟨v8, e_v8, hf⟩ := m_bndE hf
        have t_v8 : v8.toInt = (I 37).toInt + 1 := ti_add e_v8 rfl (show (1 : Int32).toInt = 1 from rfl) (by omega) (by omega)
        obtain ⟨I9, e_I9, hf⟩ := m_bndE hf
        rw [dgs_y dg] at hd
        have e6 : v6.toInt = 10 * x4.toInt + (ch q - 48) := by omega
        rw [← e6] at hd
        exact ih v6 v7 I9 (q + 1) c' (by omega) (by omega) (by omega) (by unfold DB; omega) (by omega) hd (rv_at h e_I9 (by omega) (by omega)) (fun j hj => by rw [e_I9, upd_ne hj]; exact hI j hj) hf
/-- how the marks end, by the reference -/
def MKr (I : Nat → Int32) (A : Nat → Nat → Int32) (ch : Int → Int) (N : Int) (k : Nat) (z : Option (Int × List Int)) (o : Int32 × MS) : Prop := (∃ e w, z = some (e, w) ∧ o.1.toInt = 0 ∧ (w.length : Int) ≤ 4 ∧ e ≤ N ∧ RV o.2.1 o.2.2 ch N e ∧ RFk I o.2.1 A o.2.2 k ∧ NKr o.2.2 k w) ∨ (z = none ∧ 0 < o.1.toInt ∧ RFk I o.2.1 A o.2.2 k)
theorem md_144 (h1 : x1.toInt = g) (h2 : x2.toInt = nd) (hg : 0 ≤ g ∧ g ≤ 1) (hnd : 0 ≤ nd ∧ nd ≤ 300) (hk : (k : Int) = 301 * g + nd) : ∀ (n : Nat) (I : Nat → Int32) (A : Nat → Nat → Int32) (p : Int) (K : List Int) (c : Nat), RV I A ch N p → RFk I0 I A0 A k → NKr A k K → (K.length : Int) ≤ 4 → p ≤ N → N < p + (c : Int) → 1 ≤ c → f_readMarks_144 n x1 x2 I A = some o → MKr I0 A0 ch N k (mdP ch c p K) o := by
  intro n
  induction n with
  | zero => intro I A p K c _ _ _ _ _ _ _ hf; cases hf
  | succ n ih =>
    intro I A p K c hR hF hm hl hpN hc hc1 hf
    have hf : f_readMarks_144s (f_readMarks_144 n) x1 x2 I A = some o := hf
    obtain ⟨c2, rfl⟩ : ∃ c2, c = c2 + 1 := ⟨c - 1, by omega⟩
    obtain ⟨-, ⟨hct, hN, hn⟩, hcb, h37, hp⟩ := id hR
    have z0 : (0 : Int32).toInt = 0 := rfl
    unfold f_readMarks_144s at hf
    obtain ⟨r1, h_r1, hf⟩ := m_clR hf (fun _ h => rro_look h)
    have p_r1 := pc_look h_r1
    dsimp only at p_r1
    have q1 := rv_lk hR h_r1
    dsimp only at q1
    clear p_r1
    rcases m_ifE hf with ⟨c1, hf⟩ | ⟨c1, hf⟩
    · skip
      replace c1 := ti_eqP (a := r1) (b := (36 : Int32)) c1 rfl (show (36 : Int32).toInt = 36 from rfl)
      obtain ⟨v2, e_v2, hf⟩ := m_bndE hf
      have t_v2 : v2.toInt = (I 37).toInt + 1 := ti_add e_v2 rfl (show (1 : Int32).toInt = 1 from rfl) (by omega) (by omega)
      obtain ⟨I3, e_I3, hf⟩ := m_bndE hf
      have c36 : ch p = 36 := by omega
      have pN : p < N := by
        by_cases e : p < N
        · exact e
        · have := rv_out hR (show N ≤ p by omega); omega
      have R3 : RV I3 A ch N (p + 1) := rv_at hR e_I3 (by omega) (by omega)
      have g1 := md_174 (I0 := I) (g := g) (nd := nd) (p := p) h1 h2 hg hnd hk hm hl (by omega) h37 mFuel 0 0 I3 (p + 1) 3 (by decide) (by omega) (by decide) (by unfold DB; omega) (by omega) (by rw [z0]) R3 (fun j hj => by rw [e_I3, upd_ne hj]) hf
      rcases g1 with ⟨a1, a2, a9⟩ | ⟨a1, I2, A2, a2, a3, a4, a5, a6, a7⟩
      · exact Or.inr ⟨md_n c36 a2, a1, rfk_t hF a9⟩
      · rw [md_s c36 a1]
        have db := dgs_b (ch := ch) 3 (p + 1) 0
        have bge := a5.1
        refine ih I2 A2 _ _ c2 a2 (rfk_t hF a3) a4 ?_ a6 (by omega) (by omega) a7
        have : ((K ++ [(dgs ch 3 (p + 1) 0).2]).length : Int) = (K.length : Int) + 1 := app_len
        have : K.length ≠ 4 := fun e => a1 (Or.inr (Or.inr (Or.inr e)))
        omega
    · skip
      replace c1 := ti_eqN (a := r1) (b := (36 : Int32)) c1 rfl (show (36 : Int32).toInt = 36 from rfl)
      cases hf
      try dsimp only
      exact Or.inl ⟨p, K, md_0 (by omega), rfl, hl, hpN, hR, hF, hm⟩
/-- the reference reads marks -/
theorem v_readMarks (h1 : x1.toInt = g) (h2 : x2.toInt = nd) (hg : 0 ≤ g ∧ g ≤ 1) (hnd : 0 ≤ nd ∧ nd ≤ 300) (hk : (k : Int) = 301 * g + nd) (hR : RV I A ch N p) (hpN : p ≤ N) (hm : NKr A k []) (hf : f_readMarks x1 x2 I A = some o) : MKr I A ch N k (mkP ch p) o := by
  have hf : f_readMarks_0 x1 x2 I A = some o := hf
  have hn := hR.2.1.2.2
  have z0 : (0 : Int32).toInt = 0 := rfl
  have z1 : (1 : Int32).toInt = 1 := rfl
  have out : ∀ i, N ≤ i → ch i = 0 := fun i hi => rv_out hR hi
  have shr : ∀ (I1 : Nat → Int32), RV I1 A ch N (blk ch p) → (∀ j, j ≠ 37 → I1 j = I j) → (ch (blk ch p) = 33 ∨ ch (blk ch p) = 63) → blk ch p ≤ N → f_readMarks_22 x1 x2 I1 A = some o → MKr I A ch N k (mkP ch p) o := by
    intro I1 R1 hI1 hs hbN hf
    have bN : blk ch p < N := by
      by_cases e : blk ch p < N
      · exact e
      · have := out (blk ch p) (by omega); omega
    have b0 := R1.2.2.2.2
    -- behind the mark itself
    have fin : ∀ (I2 : Nat → Int32) (t : Int32) (d : Int), RV I2 A ch N (blk ch p + d) → (d = 1 ∨ d = 2) → blk ch p + d ≤ N → (∀ j, j ≠ 37 → I2 j = I j) → t.toInt = shM (ch (blk ch p)) (ch (blk ch p + 1)) → (shM (ch (blk ch p)) (ch (blk ch p + 1)) ≤ 2 ↔ d = 1) → f_readMarks_132 x1 x2 t I2 A = some o → MKr I A ch N k (mkP ch p) o := by
      intro I2 t d R2 hd hdN hI2 ht hdd hf
      have sb := shM_b (ch (blk ch p)) (ch (blk ch p + 1))
      unfold mkP
      rw [if_neg (show ¬ shM (ch (blk ch p)) (ch (blk ch p + 1)) ≤ 0 by omega)]
      have ed : (if shM (ch (blk ch p)) (ch (blk ch p + 1)) ≤ 2 then (1 : Int) else 2) = d := by
        by_cases e : shM (ch (blk ch p)) (ch (blk ch p + 1)) ≤ 2
        · rw [if_pos e, hdd.1 e]
        · rw [if_neg e]
          rcases hd with hd | hd
          · exact absurd (hdd.2 hd) e
          · exact hd.symm
      rw [ed]
      unfold f_readMarks_132 at hf
      obtain ⟨⟨r1, Ic1, Ac1⟩, h_r1, hf⟩ := m_clE hf
      dsimp only at hf
      obtain ⟨a1, a2, a3, a4⟩ := v_addMarkTo (x3 := t) h1 h2 hg hnd hk R2.1.2 hm (by decide) (by omega) h_r1
      dsimp only at a1 a2 a3 a4
      rw [ht, List.nil_append] at a3
      rw [a1] at hf
      have R1' : RV I2 Ac1 ch N (blk ch p + d) := rv_A R2 a2 (a4.2.1 2 (by decide) (by decide))
      obtain ⟨⟨r2, Ic2, Ac2⟩, h_r2, hf⟩ := m_clE hf
      dsimp only at hf
      obtain ⟨b1, b2, b3, b4, b5⟩ := rv_bl R1' h_r2
      dsimp only at b2 b3 b4
      rw [b3] at b2 hf
      have bge := b1.1
      exact md_144 (I0 := I) (A0 := A) h1 h2 hg hnd hk mFuel Ic2 Ac1 _ _ 2001 b2 ⟨fun j hj => (b4 j hj).trans (hI2 j hj), a4.2⟩ a3 (by show (1 : Int) ≤ 4; decide) (by omega) (by omega) (by decide) hf
    -- the second sign
    have two : ∀ (I2 : Nat → Int32) (x3 t0 : Int32), RV I2 A ch N (blk ch p + 1) → (∀ j, j ≠ 37 → I2 j = I j) → ((x3.toInt = 1 ∧ t0.toInt = 1 ∧ ch (blk ch p) = 33) ∨ (x3.toInt = 0 ∧ t0.toInt = 2 ∧ ch (blk ch p) = 63)) → f_readMarks_56 x1 x2 x3 t0 I2 A = some o → MKr I A ch N k (mkP ch p) o := by
      intro I2 x3 t0 R2 hI2 h3 hf
      have i237 := R2.2.2.2.1
      have adv : ∀ (t : Int32), (ch (blk ch p + 1) = 33 ∨ ch (blk ch p + 1) = 63) → t.toInt = shM (ch (blk ch p)) (ch (blk ch p + 1)) → 3 ≤ shM (ch (blk ch p)) (ch (blk ch p + 1)) → f_readMarks_120 x1 x2 t I2 A = some o → MKr I A ch N k (mkP ch p) o := by
        intro t hs2 ht h3' hf
        have bN2 : blk ch p + 1 < N := by
          by_cases e : blk ch p + 1 < N
          · exact e
          · have := out (blk ch p + 1) (by omega); omega
        unfold f_readMarks_120 at hf
        obtain ⟨v1, e1, hf⟩ := m_bndE hf
        obtain ⟨I3, e3, hf⟩ := m_bndE hf
        have t1 : v1.toInt = (I2 37).toInt + 1 := ti_add e1 rfl z1 (by omega) (by omega)
        exact fin I3 t 2 (rv_at R2 e3 (by omega) (by omega)) (Or.inr rfl) (by omega) (fun j hj => by rw [e3, upd_ne hj]; exact hI2 j hj) ht (by omega) hf
      have snd : ∀ (u : Int32), ((u.toInt = 1 ∧ ch (blk ch p + 1) = 33) ∨ (u.toInt = 0 ∧ ch (blk ch p + 1) = 63)) → f_readMarks_90 x1 x2 x3 u I2 A = some o → MKr I A ch N k (mkP ch p) o := by
        intro u hu hf
        have sv : shM (ch (blk ch p)) (ch (blk ch p + 1)) = (if x3.toInt = 1 then (if u.toInt = 1 then 3 else 5) else (if u.toInt = 1 then 6 else 4)) := by
          rcases h3 with ⟨a, -, b⟩ | ⟨a, -, b⟩ <;> rcases hu with ⟨c, d⟩ | ⟨c, d⟩ <;> rw [a, b, c, d] <;> decide
        unfold f_readMarks_90 at hf
        rcases m_ifE hf with ⟨c1, hf⟩ | ⟨c1, hf⟩
        · skip
          replace c1 := ti_eqP (a := x3) (b := (0 : Int32)) c1 rfl (show (0 : Int32).toInt = 0 from rfl)
          rcases m_ifE hf with ⟨c2, hf⟩ | ⟨c2, hf⟩
          · skip
            replace c2 := ti_eqP (a := u) (b := (0 : Int32)) c2 rfl (show (0 : Int32).toInt = 0 from rfl)
            rw [if_neg (by omega), if_neg (by omega)] at sv
            exact adv 4 (by omega) (by rw [sv]; rfl) (by omega) hf
          · skip
            replace c2 := ti_eqN (a := u) (b := (0 : Int32)) c2 rfl (show (0 : Int32).toInt = 0 from rfl)
            rw [if_neg (by omega), if_pos (by omega)] at sv
            exact adv 6 (by omega) (by rw [sv]; rfl) (by omega) hf
        · skip
          replace c1 := ti_eqN (a := x3) (b := (0 : Int32)) c1 rfl (show (0 : Int32).toInt = 0 from rfl)
          rcases m_ifE hf with ⟨c3, hf⟩ | ⟨c3, hf⟩
          · skip
            replace c3 := ti_eqP (a := u) (b := (0 : Int32)) c3 rfl (show (0 : Int32).toInt = 0 from rfl)
            rw [if_pos (by omega), if_neg (by omega)] at sv
            exact adv 5 (by omega) (by rw [sv]; rfl) (by omega) hf
          · skip
            replace c3 := ti_eqN (a := u) (b := (0 : Int32)) c3 rfl (show (0 : Int32).toInt = 0 from rfl)
            rw [if_pos (by omega), if_pos (by omega)] at sv
            exact adv 3 (by omega) (by rw [sv]; rfl) (by omega) hf
      have mid : (ch (blk ch p + 1) = 33 ∨ ch (blk ch p + 1) = 63) → f_readMarks_76 x1 x2 x3 I2 A = some o → MKr I A ch N k (mkP ch p) o := by
        intro hs2 hf
        unfold f_readMarks_76 at hf
        obtain ⟨r1, h_r1, hf⟩ := m_clR hf (fun _ h => rro_look h)
        have p_r1 := pc_look h_r1
        dsimp only at p_r1
        have q1 := rv_lk R2 h_r1
        dsimp only at q1
        clear p_r1
        rcases m_ifE hf with ⟨c1, hf⟩ | ⟨c1, hf⟩
        · skip
          replace c1 := ti_eqP (a := r1) (b := (33 : Int32)) c1 rfl (show (33 : Int32).toInt = 33 from rfl)
          exact snd 1 (Or.inl ⟨rfl, by omega⟩) hf
        · skip
          replace c1 := ti_eqN (a := r1) (b := (33 : Int32)) c1 rfl (show (33 : Int32).toInt = 33 from rfl)
          exact snd 0 (Or.inr ⟨rfl, by omega⟩) hf
      unfold f_readMarks_56 at hf
      obtain ⟨r1, h_r1, hf⟩ := m_clR hf (fun _ h => rro_look h)
      have p_r1 := pc_look h_r1
      dsimp only at p_r1
      have q1 := rv_lk R2 h_r1
      dsimp only at q1
      clear p_r1
      rcases m_ifE hf with ⟨c1, hf⟩ | ⟨c1, hf⟩
      · skip
        replace c1 := ti_eqP (a := r1) (b := (33 : Int32)) c1 rfl (show (33 : Int32).toInt = 33 from rfl)
        exact mid (Or.inl (by omega)) hf
      · skip
        replace c1 := ti_eqN (a := r1) (b := (33 : Int32)) c1 rfl (show (33 : Int32).toInt = 33 from rfl)
        obtain ⟨r2, h_r2, hf⟩ := m_clR hf (fun _ h => rro_look h)
        have p_r2 := pc_look h_r2
        dsimp only at p_r2
        have q2 := rv_lk R2 h_r2
        dsimp only at q2
        clear p_r2
        rcases m_ifE hf with ⟨c2, hf⟩ | ⟨c2, hf⟩
        · skip
          replace c2 := ti_eqP (a := r2) (b := (63 : Int32)) c2 rfl (show (63 : Int32).toInt = 63 from rfl)
          exact mid (Or.inr (by omega)) hf
        · skip
          replace c2 := ti_eqN (a := r2) (b := (63 : Int32)) c2 rfl (show (63 : Int32).toInt = 63 from rfl)
          have sv : shM (ch (blk ch p)) (ch (blk ch p + 1)) = t0.toInt := by
            unfold shM
            rcases h3 with ⟨a, b, c⟩ | ⟨a, b, c⟩
            · rw [if_pos c, if_neg (by omega), if_neg (by omega), b]
            · rw [if_neg (by omega), if_pos c, if_neg (by omega), if_neg (by omega), b]
          exact fin I2 t0 1 R2 (Or.inl rfl) (by omega) hI2 sv.symm (by omega) hf
    have one : ∀ (t : Int32), ((t.toInt = 1 ∧ ch (blk ch p) = 33) ∨ (t.toInt = 0 ∧ ch (blk ch p) = 63)) → f_readMarks_36 x1 x2 t I1 A = some o → MKr I A ch N k (mkP ch p) o := by
      intro t ht hf
      have i137 := R1.2.2.2.1
      unfold f_readMarks_36 at hf
      obtain ⟨v1, e_v1, hf⟩ := m_bndE hf
      have t_v1 : v1.toInt = (I1 37).toInt + 1 := ti_add e_v1 rfl (show (1 : Int32).toInt = 1 from rfl) (by omega) (by omega)
      obtain ⟨I2, e_I2, hf⟩ := m_bndE hf
      have R2 : RV I2 A ch N (blk ch p + 1) := rv_at R1 e_I2 (by omega) (by omega)
      have hI2 : ∀ j, j ≠ 37 → I2 j = I j := fun j hj => by rw [e_I2, upd_ne hj]; exact hI1 j hj
      rcases m_ifE hf with ⟨c1, hf⟩ | ⟨c1, hf⟩
      · skip
        replace c1 := ti_eqP (a := t) (b := (0 : Int32)) c1 rfl (show (0 : Int32).toInt = 0 from rfl)
        exact two I2 t 2 R2 hI2 (Or.inr ⟨by omega, rfl, by omega⟩) hf
      · skip
        replace c1 := ti_eqN (a := t) (b := (0 : Int32)) c1 rfl (show (0 : Int32).toInt = 0 from rfl)
        exact two I2 t 1 R2 hI2 (Or.inl ⟨by omega, rfl, by omega⟩) hf
    unfold f_readMarks_22 at hf
    obtain ⟨r1, h_r1, hf⟩ := m_clR hf (fun _ h => rro_look h)
    have p_r1 := pc_look h_r1
    dsimp only at p_r1
    have q1 := rv_lk R1 h_r1
    dsimp only at q1
    clear p_r1
    rcases m_ifE hf with ⟨c1, hf⟩ | ⟨c1, hf⟩
    · skip
      replace c1 := ti_eqP (a := r1) (b := (33 : Int32)) c1 rfl (show (33 : Int32).toInt = 33 from rfl)
      exact one 1 (Or.inl ⟨rfl, by omega⟩) hf
    · skip
      replace c1 := ti_eqN (a := r1) (b := (33 : Int32)) c1 rfl (show (33 : Int32).toInt = 33 from rfl)
      exact one 0 (Or.inr ⟨rfl, by omega⟩) hf
  unfold f_readMarks_0 at hf
  obtain ⟨⟨r1, Ic1, Ac1⟩, h_r1, hf⟩ := m_clE hf
  dsimp only at hf
  obtain ⟨b1, b2, b3, b4, b5⟩ := rv_bl hR h_r1
  dsimp only at b2 b3 b4
  rw [b3] at b2 hf
  have b0 := b2.2.2.2.2
  obtain ⟨r2, h_r2, hf⟩ := m_clR hf (fun _ h => rro_look h)
  have p_r2 := pc_look h_r2
  dsimp only at p_r2
  have q2 := rv_lk b2 h_r2
  dsimp only at q2
  clear p_r2
  rcases m_ifE hf with ⟨c1, hf⟩ | ⟨c1, hf⟩
  · skip
    replace c1 := ti_eqP (a := r2) (b := (33 : Int32)) c1 rfl (show (33 : Int32).toInt = 33 from rfl)
    exact shr Ic1 b2 b4 (Or.inl (by omega)) (by omega) hf
  · skip
    replace c1 := ti_eqN (a := r2) (b := (33 : Int32)) c1 rfl (show (33 : Int32).toInt = 33 from rfl)
    obtain ⟨r3, h_r3, hf⟩ := m_clR hf (fun _ h => rro_look h)
    have p_r3 := pc_look h_r3
    dsimp only at p_r3
    have q3 := rv_lk b2 h_r3
    dsimp only at q3
    clear p_r3
    rcases m_ifE hf with ⟨c2, hf⟩ | ⟨c2, hf⟩
    · skip
      replace c2 := ti_eqP (a := r3) (b := (63 : Int32)) c2 rfl (show (63 : Int32).toInt = 63 from rfl)
      exact shr Ic1 b2 b4 (Or.inr (by omega)) (by omega) hf
    · skip
      replace c2 := ti_eqN (a := r3) (b := (63 : Int32)) c2 rfl (show (63 : Int32).toInt = 63 from rfl)
      have sb := shM_b (ch (blk ch p)) (ch (blk ch p + 1))
      unfold mkP
      rw [if_pos (by omega)]
      exact md_144 (I0 := I) (A0 := A) h1 h2 hg hnd hk mFuel Ic1 A (blk ch p) [] 2001 b2 (rfk_i b4) hm (by decide) (by omega) (by omega) (by decide) hf
end MKR
