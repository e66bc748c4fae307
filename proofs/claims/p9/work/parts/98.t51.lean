section RMR
variable {I I0 : Nat → Int32} {A A0 : Nat → Nat → Int32} {ch : Int → Int} {N p q p0 : Int} {k : Nat} {r : List Int} {o : Int32 × MS} {x1 x2 x3 x4 x5 x6 x7 x8 t0 : Int32}
/-- how one remark ends, by the reference: too long, or it goes on -/
def RMo (self4 : Int32 → Int32 → (Nat → Int32) → (Nat → Nat → Int32) → Option (Int32 × MS)) (x1 x2 : Int32) (I : Nat → Int32) (A : Nat → Nat → Int32) (ch : Int → Int) (N : Int) (k : Nat) (r : List Int) (p0 : Int) (o : Int32 × MS) : Prop := (0 < o.1.toInt ∧ ((∀ q, ¬ RM1 ch N p0 q) ∨ ∃ q, RM1 ch N p0 q ∧ 200 < ((jnR r ch (p0 + 1) (q - (p0 + 1)).toNat).length : Int)) ∧ RFm I o.2.1 A o.2.2 k) ∨ (∃ q I2 A2, RM1 ch N p0 q ∧ ((jnR r ch (p0 + 1) (q - (p0 + 1)).toNat).length : Int) ≤ 200 ∧ RV I2 A2 ch N (blk ch (if ch p0 = 123 then q + 1 else q)) ∧ RFm I I2 A A2 k ∧ NRr A2 k (jnR r ch (p0 + 1) (q - (p0 + 1)).toNat) ∧ BL ch (if ch p0 = 123 then q + 1 else q) (blk ch (if ch p0 = 123 then q + 1 else q)) ∧ blk ch (if ch p0 = 123 then q + 1 else q) ≤ N ∧ self4 x1 x2 I2 A2 = some o)
theorem rm_199 {self4 : Int32 → Int32 → (Nat → Int32) → (Nat → Nat → Int32) → Option (Int32 × MS)} (hR : RV I A ch N p) (hr : NRr A k r) (hp0 : 0 ≤ p0 ∧ p0 < p) (hq : RM1 ch N p0 p) (h3 : x3.toInt = p0) (h4 : (x4.toInt = 1 ∧ ch p0 = 123) ∨ (x4.toInt = 0 ∧ ch p0 = 59)) (h5 : x5.toInt = p0 + 1) (h6 : x6.toInt = p - (p0 + 1)) (h7 : x7.toInt = (k : Int)) (hk : k ≤ 601) (h8 : x8.toInt = (r.length : Int)) (ht : t0.toInt = if (p - (p0 + 1)).toNat = 0 ∨ r = [] then 0 else 1) (hr2 : (r.length : Int) ≤ 200) (hf : f_readRemarks_199 self4 x1 x2 x3 x4 x5 x6 x7 x8 t0 I A = some o) : RMo self4 x1 x2 I A ch N k r p0 o := by
  obtain ⟨⟨hI, hA⟩, ⟨hc, hN, hn⟩, hcb, h37, hp⟩ := id hR
  have tb : t0.toInt = 0 ∨ t0.toInt = 1 := by rw [ht]; split <;> omega
  have jl := jnR_l (r := r) (ch := ch) (a := p0 + 1) (k := (p - (p0 + 1)).toNat)
  rw [← ht] at jl
  have hpN : p ≤ N ∧ (ch p0 = 123 → p < N) := by rcases hq with g | g <;> constructor <;> omega
  have go : ∀ A1, RV I A1 ch N p → RFm I I A A1 k → (∀ j : Nat, (j : Int) < (r.length : Int) + t0.toInt → (A1 15 (200 * k + j)).toInt = wA (jnR r ch (p0 + 1) (p - (p0 + 1)).toNat) (j : Int)) → ((jnR r ch (p0 + 1) (p - (p0 + 1)).toNat).length : Int) ≤ 200 → f_readRemarks_244 self4 x1 x2 x4 x5 x6 x7 x8 t0 I A1 = some o → RMo self4 x1 x2 I A ch N k r p0 o := by
    intro A1 R1 F1 w1 hl hf
    unfold f_readRemarks_244 at hf
    obtain ⟨I2, A2, d1, d2, d3, d4, d5, d6⟩ := rm_247 (A0 := A) (n0 := p - (p0 + 1)) (a := p0 + 1) (by omega) h5 (by omega) h6 (by omega) h7 hk h8 ht hl (by omega) mFuel 0 A1 0 rfl (by omega) R1 F1 (fun j hj => w1 j (by omega)) hf
    have e1 : p + x4.toInt = (if ch p0 = 123 then p + 1 else p) := by
      rcases h4 with ⟨a, b⟩ | ⟨a, b⟩
      · rw [if_pos b]; omega
      · rw [if_neg (by omega)]; omega
    rw [e1] at d1 d4 d5
    exact Or.inr ⟨p, I2, A2, hq, hl, d1, d2, d3, d4, d5, d6⟩
  have old : ∀ j : Nat, (j : Int) < (r.length : Int) → wA (jnR r ch (p0 + 1) (p - (p0 + 1)).toNat) (j : Int) = wA r (j : Int) := fun j hj => by
    unfold jnR
    split
    · rfl
    · rw [wA_l (by split
                   · next c => rw [c] at hj; exact hj
                   · rw [List.length_append]; omega)]
      split
      · next c => rw [c]
      · rw [wA_app, if_neg (by omega)]
  unfold f_readRemarks_199 at hf
  obtain ⟨v1, e_v1, hf⟩ := m_bndE hf
  have t_v1 : v1.toInt = x8.toInt + t0.toInt := ti_add e_v1 rfl rfl (by omega) (by omega)
  obtain ⟨v2, e_v2, hf⟩ := m_bndE hf
  have t_v2 : v2.toInt = v1.toInt + x6.toInt := ti_add e_v2 rfl rfl (by omega) (by omega)
  rcases m_ifE hf with ⟨c1, hf⟩ | ⟨c1, hf⟩
  · skip
    replace c1 := ti_leP (a := v2) (b := (200 : Int32)) c1 rfl (show (200 : Int32).toInt = 200 from rfl)
    rcases m_ifE hf with ⟨c2, hf⟩ | ⟨c2, hf⟩
    · skip
      replace c2 := ti_eqP (a := t0) (b := (1 : Int32)) c2 rfl (show (1 : Int32).toInt = 1 from rfl)
      obtain ⟨v3, e_v3, hf⟩ := m_bndE hf
      have t_v3 : v3.toInt = 200 * x7.toInt := ti_mul e_v3 (show (200 : Int32).toInt = 200 from rfl) rfl (by omega) (by omega)
      obtain ⟨v4, e_v4, hf⟩ := m_bndE hf
      have t_v4 : v4.toInt = v3.toInt + x8.toInt := ti_add e_v4 rfl rfl (by omega) (by omega)
      obtain ⟨-, hf⟩ := m_chkE hf
      obtain ⟨A5, e_A5, hf⟩ := m_bndE hf
      obtain ⟨nn, rn⟩ : (p - (p0 + 1)).toNat ≠ 0 ∧ r ≠ [] := ⟨fun e => by rw [if_pos (Or.inl e)] at ht; omega, fun e => by rw [if_pos (Or.inr e)] at ht; omega⟩
      have n32 : (vp_nar .char (32 : Int32)).toInt = 32 := by decide
      have xn : v4.toNatClampNeg = 200 * k + r.length := cl_n (by omega)
      rw [xn] at e_A5
      have o5 : ∀ j, j ≠ 15 → A5 j = A j := fun j hj => by rw [e_A5]; exact va_up_ne _ _ hj
      have s5 : A5 15 = upd (A 15) (200 * k + r.length) (vp_nar .char (32 : Int32)) := by rw [e_A5]; exact va_up_self _ _ _
      refine go A5 (rv_A hR (by rw [e_A5]; exact tk_u hA (show (0 : Int) ≤ (vp_nar .char (32 : Int32)).toInt by omega) (show (vp_nar .char (32 : Int32)).toInt ≤ (65535 : Int) by omega)) (o5 2 (by decide))) ⟨fun _ _ => rfl, fun j _ j2 => o5 j j2, fun j _ => by rw [o5 14 (by decide)], fun j hj => by rw [s5, upd_ne (by omega)]⟩ (fun j hj => ?_) (by omega) hf
      rw [s5]
      by_cases e : j = r.length
      · rw [e, upd_self, n32]
        unfold jnR
        rw [if_neg nn, if_neg rn, wA_l (by rw [List.length_append]; show _ < ((r.length + 1 : Nat) : Int); omega), wA_app, if_pos rfl]
      · rw [upd_ne (by omega), old j (by omega)]
        exact hr.2 j (by omega)
    · skip
      replace c2 := ti_eqN (a := t0) (b := (1 : Int32)) c2 rfl (show (1 : Int32).toInt = 1 from rfl)
      exact go A hR rfm_0 (fun j hj => by rw [old j (by omega)]; exact hr.2 j (by omega)) (by omega) hf
  · skip
    replace c1 := ti_leN (a := v2) (b := (200 : Int32)) c1 rfl (show (200 : Int32).toInt = 200 from rfl)
    obtain ⟨r6, h_r6, hf⟩ := m_clR hf (fun _ h => rro_fault h)
    have q6 := v_fault (x1 := 8) (x2 := x3) (by decide) (by omega) h_r6
    dsimp only at q6
    have z8 : (8 : Int32).toInt = 8 := rfl
    cases hf
    try dsimp only
    exact Or.inl ⟨by show 0 < r6.toInt; omega, Or.inr ⟨p, hq, by omega⟩, rfm_0⟩
theorem rm_157 {self4 : Int32 → Int32 → (Nat → Int32) → (Nat → Nat → Int32) → Option (Int32 × MS)} {g nd : Int} (hR : RV I A ch N p) (hr : NRr A k r) (hr2 : (r.length : Int) ≤ 200) (hp0 : 0 ≤ p0 ∧ p0 < p) (hq : RM1 ch N p0 p) (h1 : x1.toInt = g) (h2 : x2.toInt = nd) (hg : 0 ≤ g ∧ g ≤ 1) (hnd : 0 ≤ nd ∧ nd ≤ 300) (hk : (k : Int) = 301 * g + nd) (h3 : x3.toInt = p0) (h4 : (x4.toInt = 1 ∧ ch p0 = 123) ∨ (x4.toInt = 0 ∧ ch p0 = 59)) (h5 : x5.toInt = p0 + 1) (hf : f_readRemarks_157 self4 x1 x2 x3 x4 x5 I A = some o) : RMo self4 x1 x2 I A ch N k r p0 o := by
  obtain ⟨⟨hI, hA⟩, ⟨hc, hN, hn⟩, hcb, h37, hp⟩ := id hR
  have l1 := hr.1
  have q4 : ∀ v : Int32, v.toInt = (k : Int) → ∀ w : Int32, w = A 14 v.toNatClampNeg → w.toInt = (r.length : Int) := fun v hv w hw => by rw [hw, cl_n hv]; exact l1
  unfold f_readRemarks_157 at hf
  obtain ⟨v1, e_v1, hf⟩ := m_bndE hf
  have t_v1 : v1.toInt = (I 37).toInt - x5.toInt := ti_sub e_v1 rfl rfl (by omega) (by omega)
  obtain ⟨v2, e_v2, hf⟩ := m_bndE hf
  have t_v2 : v2.toInt = 301 * x1.toInt := ti_mul e_v2 (show (301 : Int32).toInt = 301 from rfl) rfl (by omega) (by omega)
  obtain ⟨v3, e_v3, hf⟩ := m_bndE hf
  have t_v3 : v3.toInt = v2.toInt + x2.toInt := ti_add e_v3 rfl rfl (by omega) (by omega)
  obtain ⟨-, hf⟩ := m_chkE hf
  obtain ⟨v4, e_v4, hf⟩ := m_bndE hf
  have t4 := q4 v3 (by omega) v4 e_v4
  rcases m_ifE hf with ⟨c1, hf⟩ | ⟨c1, hf⟩
  · skip
    replace c1 := ti_leP (a := v1) (b := (0 : Int32)) c1 rfl (show (0 : Int32).toInt = 0 from rfl)
    unfold f_readRemarks_198 at hf
    exact rm_199 hR hr hp0 hq h3 h4 h5 (by omega) (by omega) (by omega) t4 (by rw [if_pos (Or.inl (by omega))]; rfl) hr2 hf
  · skip
    replace c1 := ti_leN (a := v1) (b := (0 : Int32)) c1 rfl (show (0 : Int32).toInt = 0 from rfl)
    rcases m_ifE hf with ⟨c2, hf⟩ | ⟨c2, hf⟩
    · skip
      replace c2 := ti_leP (a := v4) (b := (0 : Int32)) c2 rfl (show (0 : Int32).toInt = 0 from rfl)
      unfold f_readRemarks_198 at hf
      exact rm_199 hR hr hp0 hq h3 h4 h5 (by omega) (by omega) (by omega) t4 (by rw [if_pos (Or.inr (List.eq_nil_of_length_eq_zero (by omega)))]; rfl) hr2 hf
    · skip
      replace c2 := ti_leN (a := v4) (b := (0 : Int32)) c2 rfl (show (0 : Int32).toInt = 0 from rfl)
      refine rm_199 hR hr hp0 hq h3 h4 h5 (by omega) (by omega) (by omega) t4 ?_ hr2 hf
      rw [if_neg]
      · rfl
      · rintro (e | e)
        · omega
        · rw [e] at t4
          have : ((([] : List Int).length : Nat) : Int) = 0 := rfl
          omega
theorem rm_59 {self4 : Int32 → Int32 → (Nat → Int32) → (Nat → Nat → Int32) → Option (Int32 × MS)} {g nd : Int} (hr : NRr A k r) (hr2 : (r.length : Int) ≤ 200) (hp0 : 0 ≤ p0 ∧ p0 < N) (h1 : x1.toInt = g) (h2 : x2.toInt = nd) (hg : 0 ≤ g ∧ g ≤ 1) (hnd : 0 ≤ nd ∧ nd ≤ 300) (hk : (k : Int) = 301 * g + nd) (h3 : x3.toInt = p0) (h4 : (x4.toInt = 1 ∧ ch p0 = 123) ∨ (x4.toInt = 0 ∧ ch p0 = 59)) (h5 : x5.toInt = p0 + 1) : ∀ (n : Nat) (I : Nat → Int32) (p : Int), RV I A ch N p → (∀ j, j ≠ 37 → I j = I0 j) → (p0 + 1 ≤ p ∧ p ≤ N) → (∀ j, p0 + 1 ≤ j → j < p → (ch p0 = 123 → ch j ≠ 125) ∧ (ch p0 = 59 → ch j ≠ 10 ∧ ch j ≠ 125)) → f_readRemarks_59 self4 n x1 x2 x3 x4 x5 I A = some o → RMo self4 x1 x2 I0 A ch N k r p0 o := by
  intro n
  induction n with
  | zero => intro I p _ _ _ _ hf; cases hf
  | succ n ih =>
    intro I p hR hI0 hpp hs hf
    have hf : f_readRemarks_59s self4 (f_readRemarks_59 self4 n) x1 x2 x3 x4 x5 I A = some o := hf
    obtain ⟨⟨hI, hA⟩, ⟨hc, hN, hn⟩, hcb, h37, hp⟩ := id hR
    have fin : RM1 ch N p0 p → f_readRemarks_157 self4 x1 x2 x3 x4 x5 I A = some o → RMo self4 x1 x2 I0 A ch N k r p0 o := by
      intro hq hf
      rcases rm_157 hR hr hr2 (by omega) hq h1 h2 hg hnd hk h3 h4 h5 hf with a | ⟨q, I2, A2, a1, a2, a3, a4, a5⟩
      · exact Or.inl ⟨a.1, a.2.1, fun j hj => (a.2.2.1 j hj).trans (hI0 j hj), a.2.2.2⟩
      · exact Or.inr ⟨q, I2, A2, a1, a2, a3, ⟨fun j hj => (a4.1 j hj).trans (hI0 j hj), a4.2⟩, a5⟩
    have end2 : (ch p0 = 123 → p < N → ch p = 125) → (ch p0 = 59 → p < N → ch p = 10) → f_readRemarks_132 self4 x1 x2 x3 x4 x5 I A = some o → RMo self4 x1 x2 I0 A ch N k r p0 o := by
      intro e1 e2 hf
      unfold f_readRemarks_132 at hf
      rcases m_ifE hf with ⟨c1, hf⟩ | ⟨c1, hf⟩
      · skip
        replace c1 := ti_eqP (a := x4) (b := (0 : Int32)) c1 rfl (show (0 : Int32).toInt = 0 from rfl)
        have c59 : ch p0 = 59 := by omega
        refine fin (Or.inr ⟨c59, hpp.1, hpp.2, ?_, fun j j0 j1 => (hs j j0 j1).2 c59⟩) hf
        by_cases c : p = N
        · exact Or.inl c
        · exact Or.inr (e2 c59 (by omega))
      · skip
        replace c1 := ti_eqN (a := x4) (b := (0 : Int32)) c1 rfl (show (0 : Int32).toInt = 0 from rfl)
        rcases m_ifE hf with ⟨c2, hf⟩ | ⟨c2, hf⟩
        · skip
          replace c2 := ti_eqP (a := (I 37)) (b := (I 1)) c2 rfl rfl
          obtain ⟨r1, h_r1, hf⟩ := m_clR hf (fun _ h => rro_fault h)
          have q1 := v_fault (x1 := 1) (x2 := I 37) (by decide) (by omega) h_r1
          dsimp only at q1
          have z1 : (1 : Int32).toInt = 1 := rfl
          cases hf
          try dsimp only
          have c123 : ch p0 = 123 := by omega
          refine Or.inl ⟨by show 0 < r1.toInt; omega, Or.inl (fun q hq => ?_), hI0, fun _ _ _ => rfl, fun _ _ => rfl, fun _ _ => rfl⟩
          rcases hq with ⟨g1, g2, g3, g4, g5⟩ | g
          · exact (hs q g2 (by omega)).1 c123 g4
          · omega
        · skip
          replace c2 := ti_eqN (a := (I 37)) (b := (I 1)) c2 rfl rfl
          have c123 : ch p0 = 123 := by omega
          exact fin (Or.inl ⟨c123, hpp.1, by omega, e1 c123 (by omega), fun j j0 j1 => (hs j j0 j1).1 c123⟩) hf
    have go : p < N → (ch p0 = 123 → ch p ≠ 125) → (ch p0 = 59 → ch p ≠ 10) → f_readRemarks_96 self4 (f_readRemarks_59 self4 n) x1 x2 x3 x4 x5 I A = some o → RMo self4 x1 x2 I0 A ch N k r p0 o := by
      intro hlt e1 e2 hf
      have more : (ch p0 = 59 → ch p ≠ 125) → f_readRemarks_119 self4 (f_readRemarks_59 self4 n) x1 x2 x3 x4 x5 I A = some o → RMo self4 x1 x2 I0 A ch N k r p0 o := by
        intro e3 hf
        unfold f_readRemarks_119 at hf
        obtain ⟨v1, e_v1, hf⟩ := m_bndE hf
        have t_v1 : v1.toInt = (I 37).toInt + 1 := ti_add e_v1 rfl (show (1 : Int32).toInt = 1 from rfl) (by omega) (by omega)
        obtain ⟨I2, e_I2, hf⟩ := m_bndE hf
        refine ih I2 (p + 1) (rv_at hR e_I2 (by omega) (by omega)) (fun j hj => by rw [e_I2, upd_ne hj]; exact hI0 j hj) (by omega) (fun j j0 j1 => ?_) hf
        by_cases e : j = p
        · rw [e]; exact ⟨e1, fun c => ⟨e2 c, e3 c⟩⟩
        · exact hs j j0 (by omega)
      unfold f_readRemarks_96 at hf
      rcases m_ifE hf with ⟨c1, hf⟩ | ⟨c1, hf⟩
      · skip
        replace c1 := ti_eqP (a := x4) (b := (0 : Int32)) c1 rfl (show (0 : Int32).toInt = 0 from rfl)
        obtain ⟨r1, h_r1, hf⟩ := m_clR hf (fun _ h => rro_look h)
        have p_r1 := pc_look h_r1
        dsimp only at p_r1
        have q1 := rv_lk hR h_r1
        dsimp only at q1
        clear p_r1
        rcases m_ifE hf with ⟨c2, hf⟩ | ⟨c2, hf⟩
        · skip
          replace c2 := ti_eqP (a := r1) (b := (125 : Int32)) c2 rfl (show (125 : Int32).toInt = 125 from rfl)
          obtain ⟨r2, h_r2, hf⟩ := m_clR hf (fun _ h => rro_fault h)
          have q2 := v_fault (x1 := 1) (x2 := I 37) (by decide) (by omega) h_r2
          dsimp only at q2
          have z1 : (1 : Int32).toInt = 1 := rfl
          cases hf
          try dsimp only
          refine Or.inl ⟨by show 0 < r2.toInt; omega, Or.inl (fun q hq => ?_), hI0, fun _ _ _ => rfl, fun _ _ => rfl, fun _ _ => rfl⟩
          rcases hq with g | ⟨g1, g2, g3, g4, g5⟩
          · omega
          · by_cases c : p < q
            · exact (g5 p hpp.1 c).2 (by omega)
            · rcases g4 with g4 | g4
              · omega
              · by_cases e : q = p
                · rw [e] at g4; omega
                · exact ((hs q g2 (by omega)).2 g1).1 g4
        · skip
          replace c2 := ti_eqN (a := r1) (b := (125 : Int32)) c2 rfl (show (125 : Int32).toInt = 125 from rfl)
          exact more (fun _ => by omega) hf
      · skip
        replace c1 := ti_eqN (a := x4) (b := (0 : Int32)) c1 rfl (show (0 : Int32).toInt = 0 from rfl)
        exact more (fun c => by omega) hf
    unfold f_readRemarks_59s at hf
    rcases m_ifE hf with ⟨c1, hf⟩ | ⟨c1, hf⟩
    · skip
      replace c1 := ti_leP (a := (I 1)) (b := (I 37)) c1 rfl rfl
      exact end2 (fun _ l => by omega) (fun _ l => by omega) hf
    · skip
      replace c1 := ti_leN (a := (I 1)) (b := (I 37)) c1 rfl rfl
      rcases m_ifE hf with ⟨c2, hf⟩ | ⟨c2, hf⟩
      · skip
        replace c2 := ti_eqP (a := x4) (b := (0 : Int32)) c2 rfl (show (0 : Int32).toInt = 0 from rfl)
        obtain ⟨r1, h_r1, hf⟩ := m_clR hf (fun _ h => rro_look h)
        have p_r1 := pc_look h_r1
        dsimp only at p_r1
        have q1 := rv_lk hR h_r1
        dsimp only at q1
        clear p_r1
        rcases m_ifE hf with ⟨c3, hf⟩ | ⟨c3, hf⟩
        · skip
          replace c3 := ti_eqP (a := r1) (b := (10 : Int32)) c3 rfl (show (10 : Int32).toInt = 10 from rfl)
          exact end2 (fun c _ => by omega) (fun _ _ => by omega) hf
        · skip
          replace c3 := ti_eqN (a := r1) (b := (10 : Int32)) c3 rfl (show (10 : Int32).toInt = 10 from rfl)
          exact go (by omega) (fun c => by omega) (fun _ => by omega) hf
      · skip
        replace c2 := ti_eqN (a := x4) (b := (0 : Int32)) c2 rfl (show (0 : Int32).toInt = 0 from rfl)
        obtain ⟨r2, h_r2, hf⟩ := m_clR hf (fun _ h => rro_look h)
        have p_r2 := pc_look h_r2
        dsimp only at p_r2
        have q2 := rv_lk hR h_r2
        dsimp only at q2
        clear p_r2
        rcases m_ifE hf with ⟨c4, hf⟩ | ⟨c4, hf⟩
        · skip
          replace c4 := ti_eqP (a := r2) (b := (125 : Int32)) c4 rfl (show (125 : Int32).toInt = 125 from rfl)
          exact end2 (fun _ _ => by omega) (fun c _ => by omega) hf
        · skip
          replace c4 := ti_eqN (a := r2) (b := (125 : Int32)) c4 rfl (show (125 : Int32).toInt = 125 from rfl)
          exact go (by omega) (fun _ => by omega) (fun c => by omega) hf
/-- how the remarks end, by the reference -/
def RKr (I : Nat → Int32) (A : Nat → Nat → Int32) (ch : Int → Int) (N : Int) (k : Nat) (z : Option (Int × List Int)) (o : Int32 × MS) : Prop := (∃ e w, z = some (e, w) ∧ o.1.toInt = 0 ∧ (w.length : Int) ≤ 200 ∧ e ≤ N ∧ RV o.2.1 o.2.2 ch N e ∧ RFm I o.2.1 A o.2.2 k ∧ NRr o.2.2 k w) ∨ (z = none ∧ 0 < o.1.toInt ∧ RFm I o.2.1 A o.2.2 k)
theorem rm_4 {g nd : Int} (h1 : x1.toInt = g) (h2 : x2.toInt = nd) (hg : 0 ≤ g ∧ g ≤ 1) (hnd : 0 ≤ nd ∧ nd ≤ 300) (hk : (k : Int) = 301 * g + nd) : ∀ (n : Nat) (I : Nat → Int32) (A : Nat → Nat → Int32) (p : Int) (r : List Int) (c : Nat), RV I A ch N p → RFm I0 I A0 A k → NRr A k r → (r.length : Int) ≤ 200 → p ≤ N → N < p + (c : Int) → 1 ≤ c → f_readRemarks_4 n x1 x2 I A = some o → RKr I0 A0 ch N k (rmkP ch N c p r) o := by
  intro n
  induction n with
  | zero => intro I A p r c _ _ _ _ _ _ _ hf; cases hf
  | succ n ih =>
    intro I A p r c hR hF hr hr2 hpN hc hc1 hf
    have hf : f_readRemarks_4s (f_readRemarks_4 n) x1 x2 I A = some o := hf
    obtain ⟨c2, rfl⟩ : ∃ c2, c = c2 + 1 := ⟨c - 1, by omega⟩
    obtain ⟨⟨hI, hA⟩, ⟨hct, hN, hn⟩, hcb, h37, hp⟩ := id hR
    have more : (ch p = 123 ∨ ch p = 59) → f_readRemarks_22 (f_readRemarks_4 n) x1 x2 I A = some o → RKr I0 A0 ch N k (rmkP ch N (c2 + 1) p r) o := by
      intro hs hf
      have pN : p < N := by
        by_cases e : p < N
        · exact e
        · have := rv_out hR (show N ≤ p by omega); omega
      have one : RMo (f_readRemarks_4 n) x1 x2 I A ch N k r p o → RKr I0 A0 ch N k (rmkP ch N (c2 + 1) p r) o := by
        rintro (⟨a1, a2, a9⟩ | ⟨q, I2, A2, a1, a2, a3, a4, a5, a6, a7, a8⟩)
        · refine Or.inr ⟨?_, a1, rfm_t hF a9⟩
          rcases a2 with a2 | ⟨q, a2, a3⟩
          · exact rkP_n hs a2
          · exact rkP_l a2 a3
        · rw [rkP_s a1 a2]
          have qp : p + 1 ≤ q := by rcases a1 with b | b <;> omega
          have hz : p + 1 ≤ (if ch p = 123 then q + 1 else q) := by split <;> omega
          have bge : p + 1 ≤ blk ch (if ch p = 123 then q + 1 else q) := by
            have := a6.1
            omega
          exact ih I2 A2 _ _ c2 a3 (rfm_t hF a4) a5 a2 a7 (by omega) (by omega) a8
      have go : ∀ t0 : Int32, ((t0.toInt = 1 ∧ ch p = 123) ∨ (t0.toInt = 0 ∧ ch p = 59)) → f_readRemarks_41 (f_readRemarks_4 n) x1 x2 (I 37) t0 I A = some o → RKr I0 A0 ch N k (rmkP ch N (c2 + 1) p r) o := by
        intro t0 ht hf
        unfold f_readRemarks_41 at hf
        obtain ⟨v1, e_v1, hf⟩ := m_bndE hf
        have t_v1 : v1.toInt = (I 37).toInt + 1 := ti_add e_v1 rfl (show (1 : Int32).toInt = 1 from rfl) (by omega) (by omega)
        obtain ⟨I2, e_I2, hf⟩ := m_bndE hf
        have R2 : RV I2 A ch N (p + 1) := rv_at hR e_I2 (by omega) (by omega)
        refine one (rm_59 (I0 := I) (g := g) (nd := nd) hr hr2 (by omega) h1 h2 hg hnd hk h37 ht (by rw [R2.2.2.2.1]) mFuel I2 (p + 1) R2 (fun j hj => by rw [e_I2, upd_ne hj]) (by omega) (fun j j0 j1 => by omega) hf)
      unfold f_readRemarks_22 at hf
      obtain ⟨r1, h_r1, hf⟩ := m_clR hf (fun _ h => rro_look h)
      have p_r1 := pc_look h_r1
      dsimp only at p_r1
      have q1 := rv_lk hR h_r1
      dsimp only at q1
      clear p_r1
      rcases m_ifE hf with ⟨c1, hf⟩ | ⟨c1, hf⟩
      · skip
        replace c1 := ti_eqP (a := r1) (b := (123 : Int32)) c1 rfl (show (123 : Int32).toInt = 123 from rfl)
        exact go 1 (Or.inl ⟨rfl, by omega⟩) hf
      · skip
        replace c1 := ti_eqN (a := r1) (b := (123 : Int32)) c1 rfl (show (123 : Int32).toInt = 123 from rfl)
        exact go 0 (Or.inr ⟨rfl, by omega⟩) hf
    unfold f_readRemarks_4s at hf
    obtain ⟨r1, h_r1, hf⟩ := m_clR hf (fun _ h => rro_look h)
    have p_r1 := pc_look h_r1
    dsimp only at p_r1
    have q1 := rv_lk hR h_r1
    dsimp only at q1
    clear p_r1
    rcases m_ifE hf with ⟨c1, hf⟩ | ⟨c1, hf⟩
    · skip
      replace c1 := ti_eqP (a := r1) (b := (123 : Int32)) c1 rfl (show (123 : Int32).toInt = 123 from rfl)
      exact more (Or.inl (by omega)) hf
    · skip
      replace c1 := ti_eqN (a := r1) (b := (123 : Int32)) c1 rfl (show (123 : Int32).toInt = 123 from rfl)
      obtain ⟨r2, h_r2, hf⟩ := m_clR hf (fun _ h => rro_look h)
      have p_r2 := pc_look h_r2
      dsimp only at p_r2
      have q2 := rv_lk hR h_r2
      dsimp only at q2
      clear p_r2
      rcases m_ifE hf with ⟨c2, hf⟩ | ⟨c2, hf⟩
      · skip
        replace c2 := ti_eqP (a := r2) (b := (59 : Int32)) c2 rfl (show (59 : Int32).toInt = 59 from rfl)
        exact more (Or.inr (by omega)) hf
      · skip
        replace c2 := ti_eqN (a := r2) (b := (59 : Int32)) c2 rfl (show (59 : Int32).toInt = 59 from rfl)
        cases hf
        try dsimp only
        exact Or.inl ⟨p, r, rkP_0 (by omega), rfl, hr2, hpN, hR, hF, hr⟩
/-- the reference reads remarks -/
theorem v_readRemarks {g nd : Int} (h1 : x1.toInt = g) (h2 : x2.toInt = nd) (hg : 0 ≤ g ∧ g ≤ 1) (hnd : 0 ≤ nd ∧ nd ≤ 300) (hk : (k : Int) = 301 * g + nd) (hR : RV I A ch N p) (hpN : p ≤ N) (hr : NRr A k r) (hr2 : (r.length : Int) ≤ 200) (hf : f_readRemarks x1 x2 I A = some o) : RKr I A ch N k (rmkP ch N 2001 (blk ch p) r) o := by
  have hf : f_readRemarks_0 x1 x2 I A = some o := hf
  have hn := hR.2.1.2.2
  unfold f_readRemarks_0 at hf
  obtain ⟨⟨r1, Ic1, Ac1⟩, h_r1, hf⟩ := m_clE hf
  dsimp only at hf
  obtain ⟨b1, b2, b3, b4, b5⟩ := rv_bl hR h_r1
  dsimp only at b2 b3 b4
  rw [b3] at b2 hf
  have b0 := b2.2.2.2.2
  exact rm_4 (I0 := I) (A0 := A) h1 h2 hg hnd hk mFuel Ic1 A (blk ch p) r 2001 b2 ⟨b4, fun _ _ _ => rfl, fun _ _ => rfl, fun _ _ => rfl⟩ hr hr2 (by omega) (by omega) (by decide) hf
end RMR
