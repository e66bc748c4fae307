/-- the cells of the two games, the object itself and its board: what the other calls must leave alone -/
noncomputable def KP9 (a : Nat) : Prop := (35 ≤ a ∧ a ≤ 41) ∨ (99 ≤ a ∧ a ≤ 105) ∨ 107 ≤ a ∨ a = 1
/-- the other fixed cells -/
noncomputable abbrev WS (a : Nat) : Prop := (2 ≤ a ∧ a ≤ 34) ∨ (42 ≤ a ∧ a ≤ 98) ∨ a = 106
/-- references among them: kind, slot -/
noncomputable def CK (k j : Nat) : Bool := [(0, 0), (7, 0), (7, 1), (8, 0), (8, 1), (8, 10), (9, 0), (3, 0), (3, 1), (11, 0), (11, 1), (11, 2), (11, 3), (11, 4), (11, 5), (11, 6)].contains (k, j)
/-- all fixed references of that sort -/
noncomputable def fxA : List (Nat × Nat × Nat) := fxL ++ (List.range 14).map (fun d => (49 + 2 * d, 0, 50 + 2 * d)) ++ (List.range 7).map (fun d => (85 + 2 * d, 0, 86 + 2 * d))
/-- what holds while the class works with these cells -/
noncomputable def NQ (S : ZS) : Prop := (Fh S ∧ 109 ≤ zt S ∧ 18 ≤ zK S 0 ∧ zc S = 0) ∧ (∀ a b c, zK S a = 6 → zK S b = 6 → zP S 0 a = some c → zP S 0 b = some c → c = 0 ∨ a = b) ∧ (∀ a c, zK S a = 6 → zP S 0 a = some c → c = 0 ∨ zK S c = 13) ∧ (∀ a j b, CK (zK S a) j = true → (WS a ∨ a = 1) → zP S j a = some b → WS b) ∧ (∀ a i b, zK S a = 15 → WS a → ¬ zN S a ≤ i → zB S a i = some b → WS b) ∧ (∀ g, zP S 7 1 = some g → g = 35 ∨ g = 99) ∧ ∀ g b, g = 35 ∨ g = 99 → zP S 7 g = some b → WS b
/-- the games' cells stay -/
noncomputable def KE (S S' : ZS) : Prop := ∀ a, zK S a < 18 → KP9 a → EQc S S' a
section KES
variable {S S1 S2 : ZS} {a b c g i j k x0 : Nat}
theorem ws_k (h : WS a) : ¬ KP9 a := by
  unfold WS at h
  unfold KP9
  omega
theorem ws_lt (h : WS a) : 1 ≤ a ∧ a < 109 := by
  unfold WS at h
  omega
theorem wd_lt (h : WS a ∨ a = 1) : 1 ≤ a ∧ a < 109 := by
  unfold WS at h
  omega
theorem ke_0 : KE S S := fun _ _ _ => eqc_0
theorem ke_t (h : KE S S1) (h2 : KE S1 S2) : KE S S2 := fun a ha hk => eqc_t (h a ha hk) (h2 a (by rw [(h a ha hk).1]; exact ha) hk)
theorem nq_cl (h : NQ S) (hk : zK S a = k) (hc : CK k j = true) (w : WS a ∨ a = 1) (p : zP S j a = some b) : WS b := h.2.2.2.1 a j b (by rw [hk]; exact hc) w p
theorem nq_cb (h : NQ S) (hk : zK S a = 15) (w : WS a) (hi : ¬ zN S a ≤ i) (p : zB S a i = some b) : WS b := h.2.2.2.2.1 a i b hk w hi p
theorem nq_g1 (h : NQ S) (p : zP S 7 1 = some g) : g = 35 ∨ g = 99 := h.2.2.2.2.2.1 g p
theorem nq_g7 (h : NQ S) (hg : g = 35 ∨ g = 99) (p : zP S 7 g = some b) : WS b := h.2.2.2.2.2.2 g b hg p
/-- an int -/
theorem nk_I {v : Int32} (h : NQ S) (w : WS a) (e : S1 = zsI S j a v) : NQ S1 ∧ KE S S1 := by
  subst e
  refine ⟨h, fun x hx kx => ?_⟩
  have hne : x ≠ a := fun e => ws_k w (by rw [← e]; exact kx)
  exact ⟨rfl, rfl, fun q => zI_b hne, fun _ => rfl, rfl, fun _ => rfl, fun _ _ _ => rfl⟩
/-- a number in an array of ints -/
theorem nk_A {v : Int32} (h : NQ S) (w : WS a) (hk : zK S a = 14) (e : S1 = zsA S a i v) : NQ S1 ∧ KE S S1 := by
  subst e
  refine ⟨h, fun x hx kx => ?_⟩
  have hne : x ≠ a := fun e => ws_k w (by rw [← e]; exact kx)
  refine ⟨rfl, rfl, fun _ => rfl, fun _ => rfl, rfl, fun _ => va_up_ne _ _ hne, fun k6 c hc => va_up_ne _ _ (fun e => ?_)⟩
  rcases h.2.2.1 x c k6 hc with e0 | e0
  · have := ws_lt w
    omega
  · rw [e, hk] at e0
    cases e0
theorem nk_C {b sp dp n : Nat} (h : NQ S) (w : WS a) (hk : zK S a = 14) (e : S1 = zsC S b a sp dp n) : NQ S1 ∧ KE S S1 := by
  subst e
  refine ⟨h, fun x hx kx => ?_⟩
  have hne : x ≠ a := fun e => ws_k w (by rw [← e]; exact kx)
  refine ⟨rfl, rfl, fun _ => rfl, fun _ => rfl, rfl, fun _ => va_up_ne _ _ hne, fun k6 c hc => va_up_ne _ _ (fun e => ?_)⟩
  rcases h.2.2.1 x c k6 hc with e0 | e0
  · have := ws_lt w
    omega
  · rw [e, hk] at e0
    cases e0
/-- a sign in a row's own array -/
theorem nk_A13 {v : Int32} (h : NQ S) (w : WS x0) (k6 : zK S x0 = 6) (p : zP S 0 x0 = some a) (hk : zK S a = 13) (e : S1 = zsA S a i v) : NQ S1 ∧ KE S S1 := by
  subst e
  refine ⟨h, fun x hx kx => ?_⟩
  refine ⟨rfl, rfl, fun _ => rfl, fun _ => rfl, rfl, fun hn => va_up_ne _ _ (fun e => hn (by rw [e]; exact hk)), fun k c hc => va_up_ne _ _ (fun e => ?_)⟩
  rw [e] at hc
  rcases h.2.1 x x0 a k k6 hc p with e0 | e0
  · have h0 := h.1.2.2.1
    rw [e0] at hk
    omega
  · exact ws_k w (by rw [← e0]; exact kx)
/-- a new array of signs -/
theorem nk_nA {q n : Nat} (h : NQ S) (eq : q = zt S) (e : S1 = zsNewA S q 13 n) : NQ S1 ∧ KE S S1 := by
  subst eq
  subst e
  obtain ⟨⟨hF, h109, h0, h0c⟩, h2, h3, h4, h5, h6, h7⟩ := h
  have nl : ∀ x, zK S x < 18 → x ≠ zt S := fun x hx e => by
    have := hF x (by omega)
    omega
  have K : ∀ x, x ≠ zt S → zK (zsNewA S (zt S) 13 n) x = zK S x := fun x hx => va_up_ne _ _ hx
  have Kq : zK (zsNewA S (zt S) 13 n) (zt S) = 13 := va_up_self _ _ _
  have K6 : ∀ x k, k ≠ 13 → zK (zsNewA S (zt S) 13 n) x = k → zK S x = k ∧ x ≠ zt S := fun x k hk hx => by
    by_cases e : x = zt S
    · rw [e, Kq] at hx
      exact absurd hx.symm hk
    · rw [K x e] at hx
      exact ⟨hx, e⟩
  refine ⟨⟨⟨fun x hx => ?_, Nat.le_succ_of_le h109, ?_, h0c⟩, fun x y c kx ky px py => h2 x y c (K6 x 6 (by decide) kx).1 (K6 y 6 (by decide) ky).1 px py, fun x c kx px => ?_, fun x j b hc w p => ?_, fun x i b hk w hi p => ?_, h6, h7⟩, fun x hx kx => ?_⟩
  · have hx : zt S + 1 ≤ x := hx
    rw [K x (by omega)]
    exact hF x (by omega)
  · rw [K 0 (by omega)]; exact h0
  · rcases h3 x c (K6 x 6 (by decide) kx).1 px with e | e
    · exact Or.inl e
    · exact Or.inr (by rw [K c (nl c (by omega))]; exact e)
  · have := wd_lt w
    rw [K x (by omega)] at hc
    exact h4 x j b hc w p
  · have hl := ws_lt w
    have hz : x ≠ zt S := by omega
    rw [K x hz] at hk
    have hi : ¬ va_up (zN S) (zt S) n x ≤ i := hi
    rw [va_up_ne _ _ hz] at hi
    have p : va_up (zB S) (zt S) (fun _ => none) x i = some b := p
    rw [va_up_ne _ _ hz] at p
    exact h5 x i b hk w hi p
  · have hz := nl x hx
    refine ⟨K x hz, va_up_ne _ _ hz, fun _ => rfl, fun _ => rfl, va_up_ne _ _ hz, fun _ => va_up_ne _ _ hz, fun k6 c hc => va_up_ne _ _ (fun e => ?_)⟩
    rcases h3 x c k6 hc with e0 | e0
    · omega
    · exact nl c (by omega) e
/-- signs copied into a new array that no row has yet -/
theorem nk_D {b q sp dp n : Nat} (h : NQ S) (hk : zK S q = 13) (hq : ∀ x, zK S x = 6 → zP S 0 x ≠ some q) (e : S1 = zsD S b q sp dp n) : NQ S1 ∧ KE S S1 := by
  subst e
  refine ⟨h, fun x hx kx => ?_⟩
  exact ⟨rfl, rfl, fun _ => rfl, fun _ => rfl, rfl, fun hn => va_up_ne _ _ (fun e => hn (by rw [e]; exact hk)), fun k c hc => va_up_ne _ _ (fun e => hq x k (by rw [← e]; exact hc))⟩
/-- a row gets a new array -/
theorem nk_P {q : Nat} (h : NQ S) (w : WS x0) (k6 : zK S x0 = 6) (hk : zK S q = 13) (hq : ∀ x, zK S x = 6 → zP S 0 x ≠ some q) (e : S1 = zsP S 0 x0 (some q)) : NQ S1 ∧ KE S S1 := by
  subst e
  obtain ⟨h1, h2, h3, h4, h5, h6, h7⟩ := h
  have P0 : ∀ x, x ≠ x0 → zP (zsP S 0 x0 (some q)) 0 x = zP S 0 x := fun x hx => by
    show va_up (zP S) 0 (va_up (zP S 0) x0 (some q)) 0 x = _
    rw [va_up_self, va_up_ne _ _ hx]
  have P0' : zP (zsP S 0 x0 (some q)) 0 x0 = some q := by
    show va_up (zP S) 0 (va_up (zP S 0) x0 (some q)) 0 x0 = _
    rw [va_up_self, va_up_self]
  have Pj : ∀ j, j ≠ 0 → zP (zsP S 0 x0 (some q)) j = zP S j := fun j hj => va_up_ne _ _ hj
  refine ⟨⟨h1, fun x y c kx ky px py => ?_, fun x c kx px => ?_, fun x j b hc wx p => ?_, h5, fun g p => h6 g (by rw [← Pj 7 (by decide)]; exact p), fun g b hg p => h7 g b hg (by rw [← Pj 7 (by decide)]; exact p)⟩, fun x hx kx => ?_⟩
  · by_cases ex : x = x0
    · by_cases ey : y = x0
      · exact Or.inr (ex.trans ey.symm)
      · rw [ex, P0'] at px
        rw [P0 y ey] at py
        cases px
        exact absurd py (hq y ky)
    · by_cases ey : y = x0
      · rw [ey, P0'] at py
        rw [P0 x ex] at px
        cases py
        exact absurd px (hq x kx)
      · rw [P0 x ex] at px
        rw [P0 y ey] at py
        exact h2 x y c kx ky px py
  · by_cases ex : x = x0
    · rw [ex, P0'] at px
      cases px
      exact Or.inr hk
    · rw [P0 x ex] at px
      exact h3 x c kx px
  · by_cases ej : j = 0
    · subst ej
      by_cases ex : x = x0
      · subst ex
        have hc : CK (zK S x) 0 = true := hc
        rw [k6] at hc
        cases hc
      · rw [P0 x ex] at p
        exact h4 x 0 b hc wx p
    · rw [Pj j ej] at p
      exact h4 x j b hc wx p
  · have hne : x ≠ x0 := fun e => ws_k w (by rw [← e]; exact kx)
    refine ⟨rfl, rfl, fun _ => rfl, fun j => ?_, rfl, fun _ => rfl, fun _ _ _ => rfl⟩
    by_cases ej : j = 0
    · rw [ej]; exact P0 x hne
    · rw [Pj j ej]
theorem ke_X6_put {o : Int32 × ZS} {x1 : Int32} (hN : NQ S) (w_x0 : WS x0) (hf : d_X6_put x0 x1 S = some o) : NQ o.2 ∧ KE S o.2 := by
  have s43 : ∀ {S : ZS}, NQ S → d_X6_put_43 x0 x1 S = some o → NQ o.2 ∧ KE S o.2 := fun {S} hN hf => by
    unfold d_X6_put_43 at hf
    obtain ⟨k6, hf⟩ := m_chkE hf
    obtain ⟨b1, p1, hf⟩ := m_calE hf
    obtain ⟨-, hf⟩ := m_chkE hf
    obtain ⟨k13, hf⟩ := m_chkE hf
    obtain ⟨-, hf⟩ := m_chkE hf
    obtain ⟨S2, e2, hf⟩ := m_bndE hf
    obtain ⟨-, hf⟩ := m_chkE hf
    obtain ⟨v3, -, hf⟩ := m_bndE hf
    obtain ⟨-, hf⟩ := m_chkE hf
    obtain ⟨S4, e4, hf⟩ := m_bndE hf
    obtain ⟨n2, f2⟩ := nk_A13 hN w_x0 k6 p1 k13 e2
    obtain ⟨n4, f4⟩ := nk_I n2 w_x0 e4
    cases hf
    exact ⟨n4, ke_t f2 f4⟩
  have hf : d_X6_put_0 x0 x1 S = some o := hf
  unfold d_X6_put_0 at hf
  obtain ⟨k6, hf⟩ := m_chkE hf
  obtain ⟨-, hf⟩ := m_chkE hf
  obtain ⟨b1, p1, hf⟩ := m_calE hf
  obtain ⟨-, hf⟩ := m_chkE hf
  obtain ⟨v2, -, hf⟩ := m_bndE hf
  rcases m_ifE hf with ⟨-, hf⟩ | ⟨-, hf⟩
  · exact s43 hN hf
  · obtain ⟨-, hf⟩ := m_chkE hf
    obtain ⟨v3, -, hf⟩ := m_bndE hf
    obtain ⟨v4, -, hf⟩ := m_bndE hf
    obtain ⟨-, hf⟩ := m_chkE hf
    obtain ⟨q5, e5, hf⟩ := m_bndE hf
    obtain ⟨S6, e6, hf⟩ := m_bndE hf
    obtain ⟨k66, hf⟩ := m_chkE hf
    obtain ⟨b9, -, hf⟩ := m_calE hf
    obtain ⟨-, hf⟩ := m_chkE hf
    obtain ⟨kq, hf⟩ := m_chkE hf
    obtain ⟨-, hf⟩ := m_chkE hf
    obtain ⟨S10, e10, hf⟩ := m_bndE hf
    obtain ⟨-, hf⟩ := m_chkE hf
    obtain ⟨S11, e11, hf⟩ := m_bndE hf
    obtain ⟨n6, f6⟩ := nk_nA hN e5 e6
    have hq : ∀ x, zK S6 x = 6 → zP S6 0 x ≠ some q5 := fun x kx px => by
      have kS : zK S x = 6 := by
        by_cases e : x = q5
        · rw [e, kq] at kx; cases kx
        · rw [e6] at kx
          have kx : va_up (zK S) q5 13 x = 6 := kx
          rw [va_up_ne _ _ e] at kx
          exact kx
      have px : zP S 0 x = some q5 := by rw [e6] at px; exact px
      have hF := hN.1.1
      have h9 := hN.1.2.1
      rcases hN.2.2.1 x q5 kS px with e0 | e0
      · omega
      · have := hF q5 (by omega)
        omega
    obtain ⟨n10, f10⟩ := nk_D n6 kq hq e10
    have k10 : zK S10 x0 = 6 := by rw [e10]; exact k66
    obtain ⟨n11, f11⟩ := nk_P (q := q5) n10 w_x0 k10 (by rw [e10]; exact kq) (fun x kx => by rw [e10] at kx ⊢; exact hq x kx) e11
    obtain ⟨n, f⟩ := s43 n11 hf
    exact ⟨n, ke_t f6 (ke_t f10 (ke_t f11 f))⟩
theorem nq_q (h : NQ S) : NQ (zsQ S) := by
  obtain ⟨⟨hF, h109, h0, h0c⟩, r⟩ := h
  exact ⟨⟨fun x hx => hF x (Nat.le_trans (Nat.le_succ _) hx), Nat.le_succ_of_le h109, h0, h0c⟩, r⟩
theorem ke_q (h : KE S S1) : KE S (zsQ S1) := h
/-- a new tag that no game has -/
theorem nk_Tg (h : NQ S) : NQ (zTg S) ∧ KE S (zTg S) := by
  obtain ⟨f1, f2, f3, f4, f5, f6, -⟩ := tg_f S
  obtain ⟨e1, e2, e3, e4, e5, -⟩ := tg_e S
  obtain ⟨⟨hF, h109, h0, h0c⟩, h2, h3, h4, h5, h6, h7⟩ := h
  have nl : ∀ x, zK S x < 18 → ¬ (x = zt S ∨ x = zt S + 1 ∨ x = zt S + 2) := fun x hx e => by
    have := hF x (by omega)
    omega
  have lo : ∀ x, x < 109 → ¬ (x = zt S ∨ x = zt S + 1 ∨ x = zt S + 2) := fun x hx => by omega
  have R6 : ∀ x c, zK (zTg S) x = 6 → zP (zTg S) 0 x = some c → c = 0 ∨ (zK S x = 6 ∧ zP S 0 x = some c) := fun x c kx px => by
    by_cases e0 : x = zt S
    · rw [e0, f4] at kx; cases kx
    · by_cases ea : x = zt S + 1
      · rw [ea, f5.2.1] at px
        cases px
        exact Or.inl h0c
      · by_cases eb : x = zt S + 2
        · rw [eb, f6.2.1] at px
          cases px
          exact Or.inl h0c
        · have hn : ¬ (x = zt S ∨ x = zt S + 1 ∨ x = zt S + 2) := by omega
          rw [f1 x hn] at kx
          rw [f3 x 0 hn] at px
          exact Or.inr ⟨kx, px⟩
  refine ⟨⟨⟨fun x hx => ?_, by rw [e5]; omega, by rw [f1 0 (lo 0 (by decide))]; exact h0, by rw [e4]; exact h0c⟩, fun x y c kx ky px py => ?_, fun x c kx px => ?_, fun x j b hc w p => ?_, fun x i b hk w hi p => ?_, fun g p => h6 g (by rw [← f3 1 7 (lo 1 (by decide))]; exact p), fun g b hg p => h7 g b hg (by rw [← f3 g 7 (lo g (by omega))]; exact p)⟩, fun x hx kx => ?_⟩
  · rw [e5] at hx
    rw [f1 x (by omega)]
    exact hF x (by omega)
  · rcases R6 x c kx px with e | ⟨ka, pa⟩
    · exact Or.inl e
    · rcases R6 y c ky py with e | ⟨kb, pb⟩
      · exact Or.inl e
      · exact h2 x y c ka kb pa pb
  · rcases R6 x c kx px with e | ⟨ka, pa⟩
    · exact Or.inl e
    · rcases h3 x c ka pa with e | e
      · exact Or.inl e
      · exact Or.inr (by rw [f1 c (nl c (by omega))]; exact e)
  · have hl := lo x (wd_lt w).2
    rw [f1 x hl] at hc
    rw [f3 x j hl] at p
    exact h4 x j b hc w p
  · have hl := lo x (ws_lt w).2
    rw [f1 x hl] at hk
    rw [e1] at hi
    rw [e3] at p
    exact h5 x i b hk w hi p
  · have hl := nl x hx
    exact ⟨f1 x hl, by rw [e1], fun j => f2 x j hl, fun j => f3 x j hl, by rw [e3], fun _ => by rw [e2], fun _ _ _ => by rw [e2]⟩
theorem ke_X1_tagAt {o : Nat × ZS} {x1 : Int32} (hN : NQ S) (hf : d_X1_tagAt x0 x1 S = some o) : NQ o.2 ∧ KE S o.2 := by
  have h38 : ∀ {t : Option Nat} {S1 : ZS}, d_X1_tagAt_38 t S1 = some o → o.2 = S1 := fun hf => by
    unfold d_X1_tagAt_38 at hf
    obtain ⟨b1, -, hf⟩ := m_calE hf
    cases hf
    rfl
  have s22 : ∀ {t0 : Option Nat}, d_X1_tagAt_22 t0 S = some o → NQ o.2 ∧ KE S o.2 := fun hf => by
    unfold d_X1_tagAt_22 at hf
    rcases m_optE hf with ⟨-, hf⟩ | ⟨b1, -, hf⟩
    · obtain ⟨q2, e1, hf⟩ := m_bndE hf
      obtain ⟨S3, e2, hf⟩ := m_bndE hf
      obtain ⟨⟨r7, S8⟩, ho, hf⟩ := m_cal2E hf
      rw [e2, e1, init10 S] at ho
      have e8 : S8 = zTg S := by
        have := Option.some.inj ho
        exact (congrArg Prod.snd this).symm
      rw [h38 hf]
      show NQ S8 ∧ KE S S8
      rw [e8]
      exact nk_Tg hN
    · rw [h38 hf]
      exact ⟨hN, ke_0⟩
  have hf : d_X1_tagAt_0 x0 x1 S = some o := hf
  have h21 : d_X1_tagAt_21 S = some o → NQ o.2 ∧ KE S o.2 := fun hf => by
    unfold d_X1_tagAt_21 at hf
    exact s22 hf
  unfold d_X1_tagAt_0 at hf
  rcases m_ifE hf with ⟨-, hf⟩ | ⟨-, hf⟩
  · exact h21 hf
  · obtain ⟨q1, hf⟩ := m_chkE hf
    rcases m_ifE hf with ⟨-, hf⟩ | ⟨-, hf⟩
    · exact h21 hf
    · obtain ⟨q2, hf⟩ := m_chkE hf
      obtain ⟨b1, -, hf⟩ := m_calE hf
      obtain ⟨q3, hf⟩ := m_chkE hf
      obtain ⟨-, hf⟩ := m_chkE hf
      obtain ⟨v2, e4, hf⟩ := m_bndE hf
      exact s22 hf
/-- what holds between two calls is enough -/
theorem fxA_cl : ∀ a, a < 109 → ∀ j, j < 11 → (WS a ∨ a = 1) → CK (fxK a) j = true → (fxA.any (fun t => t.1 == a && t.2.1 == j && decide (WS t.2.2))) = true := by decide +kernel
theorem ck_j {k j : Nat} (h : CK k j = true) : j < 11 := by
  unfold CK at h
  rw [List.contains_iff_mem] at h
  simp only [List.mem_cons, Prod.mk.injEq, List.not_mem_nil, or_false] at h
  omega
theorem nq_sc (hT : ZT S) (h : SC S) : NQ S := by
  obtain ⟨hx, gr, gs, hg, p3, p7⟩ := h
  have X := hx.1
  have A : ∀ t ∈ fxA, zP S t.2.1 t.1 = some t.2.2 := fun t ht => by
    unfold fxA at ht
    rcases List.mem_append.1 ht with ht | ht
    · rcases List.mem_append.1 ht with ht | ht
      · exact X.2.1 t ht
      · obtain ⟨d, hd, e⟩ := List.mem_map.1 ht
        rw [← e]
        exact X.2.2.1 d (List.mem_range.1 hd)
    · obtain ⟨d, hd, e⟩ := List.mem_map.1 ht
      rw [← e]
      exact X.2.2.2.1 d (List.mem_range.1 hd)
  have n84 : zN S 84 = 7 := by
    obtain ⟨b, q, -, n⟩ := T_3_1 (a := 77) hT (fx_k X (by decide) (by decide))
    rw [fx_p X (show (77, 1, 84) ∈ fxL by decide)] at q
    cases q
    exact n
  have n47 : zN S 47 = 7 := by
    obtain ⟨b, q, -, n⟩ := T_2_10 (a := 23) hT (fx_k X (by decide) (by decide))
    rw [fx_p X (show (23, 10, 47) ∈ fxL by decide)] at q
    cases q
    exact n
  have n48 : zN S 48 = 7 := by
    obtain ⟨b, q, -, n⟩ := T_2_11 (a := 23) hT (fx_k X (by decide) (by decide))
    rw [fx_p X (show (23, 11, 48) ∈ fxL by decide)] at q
    cases q
    exact n
  have k15 : ∀ a, a < 109 → fxK a = 15 → a = 47 ∨ a = 48 ∨ a = 84 := by decide +kernel
  refine ⟨⟨hT.2.2.2.2.1, hT.2.2.2.2.2.2.2.2.2.2.1, hT.2.2.2.2.2.1, hT.2.2.2.2.2.2.2.2.2.1⟩, fun a b c ka kb pa pb => hT.2.2.2.2.2.2.2.2.2.2.2 a b c ka kb pa pb, fun a c ka pa => ?_, fun a j b hc w p => ?_, fun a i b hk w hi p => ?_, fun g p => ?_, fun g b hgg p => ?_⟩
  · obtain ⟨b, q1, q2, -⟩ := hT.2.1 a ka
    rw [pa] at q1
    cases q1
    exact q2
  · have hl := wd_lt w
    rw [fx_k X hl.1 (by omega)] at hc
    obtain ⟨t, ht, e⟩ := List.any_eq_true.1 (fxA_cl a hl.2 j (ck_j hc) w hc)
    rw [Bool.and_eq_true, Bool.and_eq_true, beq_iff_eq, beq_iff_eq] at e
    obtain ⟨⟨e1, e2⟩, e3⟩ := e
    have q := A t ht
    rw [e1, e2, p] at q
    cases q
    exact of_decide_eq_true e3
  · have hl := ws_lt w
    rw [fx_k X hl.1 (by omega)] at hk
    rcases k15 a hl.2 hk with e | e | e
    · rw [e] at p hi
      rw [(X.2.2.2.2.1 i (by omega)).1] at p
      cases p
      unfold WS
      omega
    · rw [e] at p hi
      rw [(X.2.2.2.2.1 i (by omega)).2.1] at p
      cases p
      unfold WS
      omega
    · rw [e] at p hi
      rw [(X.2.2.2.2.1 i (by omega)).2.2] at p
      cases p
      unfold WS
      omega
  · rw [p7] at p
    cases p
    exact gg_g (gg_s hg)
  · rcases hgg with e | e
    · rw [e, fx_p X (show (35, 7, 42) ∈ fxL by decide)] at p
      cases p
      decide
    · rw [e, fx_p X (show (99, 7, 106) ∈ fxL by decide)] at p
      cases p
      decide
end KES

theorem ke_X0_put_32 {o : Int32 × ZS} {S : ZS}  (hN : NQ S)  (hf : f_X0_put_32 S = some o) : NQ o.2 ∧ KE S o.2 := by
  unfold f_X0_put_32 at hf
  cases hf
  exact ⟨hN, ke_0⟩
theorem ke_X0_put_0 {o : Int32 × ZS} {x0 : Nat} {x1 : Int32} {x2 : Int32} {S : ZS}  (hN : NQ S) (w_x0 : WS x0) (hf : f_X0_put_0 x0 x1 x2 S = some o) : NQ o.2 ∧ KE S o.2 := by
  unfold f_X0_put_0 at hf
  obtain ⟨q1, hf⟩ := m_chkE hf
  obtain ⟨b1, p_b1, hf⟩ := m_calE hf
  obtain ⟨q2, hf⟩ := m_chkE hf
  obtain ⟨q3, hf⟩ := m_chkE hf
  obtain ⟨S2, e4, hf⟩ := m_bndE hf
  obtain ⟨n_S2, k_S2⟩ := nk_A hN (nq_cl hN q1 (by decide) (Or.inl w_x0) p_b1) q2 e4
  replace k_S2 := ke_t ke_0 k_S2
  rcases m_ifE hf with ⟨-, hf⟩ | ⟨-, hf⟩
  ·
    obtain ⟨q5, hf⟩ := m_chkE hf
    obtain ⟨S4, e6, hf⟩ := m_bndE hf
    obtain ⟨n_S4, k_S4⟩ := nk_I n_S2 w_x0 e6
    replace k_S4 := ke_t k_S2 k_S4
    obtain ⟨n_9, k_9⟩ := ke_X0_put_32  n_S4  hf
    exact ⟨n_9, ke_t k_S4 k_9⟩
  ·
    rcases m_ifE hf with ⟨-, hf⟩ | ⟨-, hf⟩
    ·
      obtain ⟨q7, hf⟩ := m_chkE hf
      obtain ⟨S3, e8, hf⟩ := m_bndE hf
      obtain ⟨n_S3, k_S3⟩ := nk_I n_S2 w_x0 e8
      replace k_S3 := ke_t k_S2 k_S3
      obtain ⟨n_9, k_9⟩ := ke_X0_put_32  n_S3  hf
      exact ⟨n_9, ke_t k_S3 k_9⟩
    ·
      obtain ⟨n_9, k_9⟩ := ke_X0_put_32  n_S2  hf
      exact ⟨n_9, ke_t k_S2 k_9⟩
theorem ke_X0_put {o : Int32 × ZS} {x0 : Nat} {x1 : Int32} {x2 : Int32} {S : ZS}  (hN : NQ S) (w_x0 : WS x0) (hf : f_X0_put x0 x1 x2 S = some o) : NQ o.2 ∧ KE S o.2 := by
  unfold f_X0_put at hf
  obtain ⟨n_9, k_9⟩ := ke_X0_put_0  hN w_x0 hf
  exact ⟨n_9, ke_t ke_0 k_9⟩
theorem ke_X0_copyFrom_0 {o : Int32 × ZS} {x0 : Nat} {x1 : Nat} {S : ZS}  (hN : NQ S) (w_x0 : WS x0) (hf : f_X0_copyFrom_0 x0 x1 S = some o) : NQ o.2 ∧ KE S o.2 := by
  unfold f_X0_copyFrom_0 at hf
  obtain ⟨q1, hf⟩ := m_chkE hf
  obtain ⟨b1, p_b1, hf⟩ := m_calE hf
  obtain ⟨q2, hf⟩ := m_chkE hf
  obtain ⟨b2, p_b2, hf⟩ := m_calE hf
  obtain ⟨q3, hf⟩ := m_chkE hf
  obtain ⟨q4, hf⟩ := m_chkE hf
  obtain ⟨-, hf⟩ := m_chkE hf
  obtain ⟨S3, e5, hf⟩ := m_bndE hf
  obtain ⟨n_S3, k_S3⟩ := nk_C hN (nq_cl hN q2 (by decide) (Or.inl w_x0) p_b2) q4 e5
  replace k_S3 := ke_t ke_0 k_S3
  obtain ⟨q6, hf⟩ := m_chkE hf
  obtain ⟨q7, hf⟩ := m_chkE hf
  obtain ⟨S4, e8, hf⟩ := m_bndE hf
  obtain ⟨n_S4, k_S4⟩ := nk_I n_S3 w_x0 e8
  replace k_S4 := ke_t k_S3 k_S4
  obtain ⟨q9, hf⟩ := m_chkE hf
  obtain ⟨q10, hf⟩ := m_chkE hf
  obtain ⟨S5, e11, hf⟩ := m_bndE hf
  obtain ⟨n_S5, k_S5⟩ := nk_I n_S4 w_x0 e11
  replace k_S5 := ke_t k_S4 k_S5
  obtain ⟨q12, hf⟩ := m_chkE hf
  obtain ⟨q13, hf⟩ := m_chkE hf
  obtain ⟨S6, e14, hf⟩ := m_bndE hf
  obtain ⟨n_S6, k_S6⟩ := nk_I n_S5 w_x0 e14
  replace k_S6 := ke_t k_S5 k_S6
  obtain ⟨q15, hf⟩ := m_chkE hf
  obtain ⟨q16, hf⟩ := m_chkE hf
  obtain ⟨S7, e17, hf⟩ := m_bndE hf
  obtain ⟨n_S7, k_S7⟩ := nk_I n_S6 w_x0 e17
  replace k_S7 := ke_t k_S6 k_S7
  obtain ⟨q18, hf⟩ := m_chkE hf
  obtain ⟨q19, hf⟩ := m_chkE hf
  obtain ⟨S8, e20, hf⟩ := m_bndE hf
  obtain ⟨n_S8, k_S8⟩ := nk_I n_S7 w_x0 e20
  replace k_S8 := ke_t k_S7 k_S8
  obtain ⟨q21, hf⟩ := m_chkE hf
  obtain ⟨q22, hf⟩ := m_chkE hf
  obtain ⟨S9, e23, hf⟩ := m_bndE hf
  obtain ⟨n_S9, k_S9⟩ := nk_I n_S8 w_x0 e23
  replace k_S9 := ke_t k_S8 k_S9
  cases hf
  exact ⟨n_S9, k_S9⟩
theorem ke_X0_copyFrom {o : Int32 × ZS} {x0 : Nat} {x1 : Nat} {S : ZS}  (hN : NQ S) (w_x0 : WS x0) (hf : f_X0_copyFrom x0 x1 S = some o) : NQ o.2 ∧ KE S o.2 := by
  unfold f_X0_copyFrom at hf
  obtain ⟨n_9, k_9⟩ := ke_X0_copyFrom_0  hN w_x0 hf
  exact ⟨n_9, ke_t ke_0 k_9⟩
theorem ke_X0_play_227 {o : Int32 × ZS} {x0 : Nat} {S : ZS}  (hN : NQ S) (w_x0 : WS x0) (hf : f_X0_play_227 x0 S = some o) : NQ o.2 ∧ KE S o.2 := by
  unfold f_X0_play_227 at hf
  obtain ⟨q1, hf⟩ := m_chkE hf
  obtain ⟨q2, hf⟩ := m_chkE hf
  obtain ⟨v1, -, hf⟩ := m_bndE hf
  obtain ⟨q3, hf⟩ := m_chkE hf
  obtain ⟨S2, e4, hf⟩ := m_bndE hf
  obtain ⟨n_S2, k_S2⟩ := nk_I hN w_x0 e4
  replace k_S2 := ke_t ke_0 k_S2
  obtain ⟨q5, hf⟩ := m_chkE hf
  obtain ⟨v3, -, hf⟩ := m_bndE hf
  obtain ⟨q6, hf⟩ := m_chkE hf
  obtain ⟨S4, e7, hf⟩ := m_bndE hf
  obtain ⟨n_S4, k_S4⟩ := nk_I n_S2 w_x0 e7
  replace k_S4 := ke_t k_S2 k_S4
  cases hf
  exact ⟨n_S4, k_S4⟩
theorem ke_X0_play_200 {o : Int32 × ZS} {x0 : Nat} {x2 : Int32} {x3 : Int32} {S : ZS}  (hN : NQ S) (w_x0 : WS x0) (hf : f_X0_play_200 x0 x2 x3 S = some o) : NQ o.2 ∧ KE S o.2 := by
  unfold f_X0_play_200 at hf
  obtain ⟨v1, -, hf⟩ := m_bndE hf
  obtain ⟨v2, -, hf⟩ := m_bndE hf
  obtain ⟨q1, hf⟩ := m_chkE hf
  obtain ⟨v3, -, hf⟩ := m_bndE hf
  obtain ⟨q2, hf⟩ := m_chkE hf
  obtain ⟨o4, ho, hf⟩ := m_calE hf
  have r_o4 := ro_X0_pawnAttacks ho
  have n_o4 : NQ o4.2 := by rw [r_o4]; exact hN
  have k_o4 : KE S o4.2 := by rw [r_o4]; exact ke_0
  clear ho
  rcases m_ifE hf with ⟨-, hf⟩ | ⟨-, hf⟩
  ·
    obtain ⟨n_9, k_9⟩ := ke_X0_play_227  n_o4 w_x0 hf
    exact ⟨n_9, ke_t k_o4 k_9⟩
  ·
    obtain ⟨v5, -, hf⟩ := m_bndE hf
    obtain ⟨v6, -, hf⟩ := m_bndE hf
    obtain ⟨q3, hf⟩ := m_chkE hf
    obtain ⟨S7, e4, hf⟩ := m_bndE hf
    obtain ⟨n_S7, k_S7⟩ := nk_I n_o4 w_x0 e4
    replace k_S7 := ke_t k_o4 k_S7
    obtain ⟨n_9, k_9⟩ := ke_X0_play_227  n_S7 w_x0 hf
    exact ⟨n_9, ke_t k_S7 k_9⟩
theorem ke_X0_play_144 {o : Int32 × ZS} {x0 : Nat} {x2 : Int32} {x3 : Int32} {x5 : Int32} {t0 : Int32} {t1 : Int32} {t2 : Nat} {S : ZS}  (hN : NQ S) (w_x0 : WS x0) (w_t2 : WS t2) (hf : f_X0_play_144 x0 x2 x3 x5 t0 t1 t2 S = some o) : NQ o.2 ∧ KE S o.2 := by
  unfold f_X0_play_144 at hf
  obtain ⟨q1, hf⟩ := m_chkE hf
  obtain ⟨o1, ho, hf⟩ := m_calE hf
  obtain ⟨n_o1, k_o1⟩ := ke_X0_put hN w_t2 ho
  replace k_o1 := ke_t ke_0 k_o1
  clear ho
  obtain ⟨q2, hf⟩ := m_chkE hf
  obtain ⟨b2, p_b2, hf⟩ := m_calE hf
  obtain ⟨q3, hf⟩ := m_chkE hf
  obtain ⟨q4, hf⟩ := m_chkE hf
  obtain ⟨S3, e5, hf⟩ := m_bndE hf
  obtain ⟨n_S3, k_S3⟩ := nk_A n_o1 (nq_cl n_o1 q2 (by decide) (Or.inl w_x0) p_b2) q3 e5
  replace k_S3 := ke_t k_o1 k_S3
  obtain ⟨q6, hf⟩ := m_chkE hf
  obtain ⟨o4, ho, hf⟩ := m_calE hf
  have r_o4 := ro_X0_rightsOf ho
  have n_o4 : NQ o4.2 := by rw [r_o4]; exact n_S3
  have k_o4 : KE S o4.2 := by rw [r_o4]; exact k_S3
  clear ho
  obtain ⟨o5, ho, hf⟩ := m_calE hf
  have r_o5 := ro_X0_rightsOf ho
  have n_o5 : NQ o5.2 := by rw [r_o5]; exact n_o4
  have k_o5 : KE S o5.2 := by rw [r_o5]; exact k_o4
  clear ho
  obtain ⟨v6, -, hf⟩ := m_bndE hf
  obtain ⟨v7, -, hf⟩ := m_bndE hf
  obtain ⟨v8, -, hf⟩ := m_bndE hf
  obtain ⟨q7, hf⟩ := m_chkE hf
  obtain ⟨S9, e8, hf⟩ := m_bndE hf
  obtain ⟨n_S9, k_S9⟩ := nk_I n_o5 w_x0 e8
  replace k_S9 := ke_t k_o5 k_S9
  obtain ⟨q9, hf⟩ := m_chkE hf
  obtain ⟨S10, e10, hf⟩ := m_bndE hf
  obtain ⟨n_S10, k_S10⟩ := nk_I n_S9 w_x0 e10
  replace k_S10 := ke_t k_S9 k_S10
  rcases m_ifE hf with ⟨-, hf⟩ | ⟨-, hf⟩
  ·
    obtain ⟨n_9, k_9⟩ := ke_X0_play_227  n_S10 w_x0 hf
    exact ⟨n_9, ke_t k_S10 k_9⟩
  ·
    obtain ⟨v11, -, hf⟩ := m_bndE hf
    rcases m_ifE hf with ⟨-, hf⟩ | ⟨-, hf⟩
    ·
      obtain ⟨n_9, k_9⟩ := ke_X0_play_200  n_S10 w_x0 hf
      exact ⟨n_9, ke_t k_S10 k_9⟩
    ·
      obtain ⟨v12, -, hf⟩ := m_bndE hf
      rcases m_ifE hf with ⟨-, hf⟩ | ⟨-, hf⟩
      ·
        obtain ⟨n_9, k_9⟩ := ke_X0_play_200  n_S10 w_x0 hf
        exact ⟨n_9, ke_t k_S10 k_9⟩
      ·
        obtain ⟨n_9, k_9⟩ := ke_X0_play_227  n_S10 w_x0 hf
        exact ⟨n_9, ke_t k_S10 k_9⟩
theorem ke_X0_play_118 {o : Int32 × ZS} {x0 : Nat} {x2 : Int32} {x3 : Int32} {x4 : Int32} {x5 : Int32} {S : ZS}  (hN : NQ S) (w_x0 : WS x0) (hf : f_X0_play_118 x0 x2 x3 x4 x5 S = some o) : NQ o.2 ∧ KE S o.2 := by
  unfold f_X0_play_118 at hf
  rcases m_ifE hf with ⟨-, hf⟩ | ⟨-, hf⟩
  ·
    obtain ⟨q1, hf⟩ := m_chkE hf
    obtain ⟨b3, p_b3, hf⟩ := m_calE hf
    obtain ⟨q2, hf⟩ := m_chkE hf
    obtain ⟨q3, hf⟩ := m_chkE hf
    obtain ⟨v4, -, hf⟩ := m_bndE hf
    obtain ⟨n_9, k_9⟩ := ke_X0_play_144  hN w_x0 w_x0 hf
    exact ⟨n_9, ke_t ke_0 k_9⟩
  ·
    obtain ⟨q4, hf⟩ := m_chkE hf
    obtain ⟨v1, -, hf⟩ := m_bndE hf
    obtain ⟨v2, -, hf⟩ := m_bndE hf
    obtain ⟨n_9, k_9⟩ := ke_X0_play_144  hN w_x0 w_x0 hf
    exact ⟨n_9, ke_t ke_0 k_9⟩
theorem ke_X0_play_91 {o : Int32 × ZS} {x0 : Nat} {x2 : Int32} {x3 : Int32} {x4 : Int32} {x5 : Int32} {t0 : Int32} {S : ZS}  (hN : NQ S) (w_x0 : WS x0) (hf : f_X0_play_91 x0 x2 x3 x4 x5 t0 S = some o) : NQ o.2 ∧ KE S o.2 := by
  unfold f_X0_play_91 at hf
  obtain ⟨q1, hf⟩ := m_chkE hf
  obtain ⟨b1, p_b1, hf⟩ := m_calE hf
  obtain ⟨v2, -, hf⟩ := m_bndE hf
  obtain ⟨v3, -, hf⟩ := m_bndE hf
  obtain ⟨q2, hf⟩ := m_chkE hf
  obtain ⟨b4, p_b4, hf⟩ := m_calE hf
  obtain ⟨q3, hf⟩ := m_chkE hf
  obtain ⟨q4, hf⟩ := m_chkE hf
  obtain ⟨v5, -, hf⟩ := m_bndE hf
  obtain ⟨q5, hf⟩ := m_chkE hf
  obtain ⟨q6, hf⟩ := m_chkE hf
  obtain ⟨S6, e7, hf⟩ := m_bndE hf
  obtain ⟨n_S6, k_S6⟩ := nk_A hN (nq_cl hN q2 (by decide) (Or.inl w_x0) p_b1) q5 e7
  replace k_S6 := ke_t ke_0 k_S6
  obtain ⟨q8, hf⟩ := m_chkE hf
  obtain ⟨b7, p_b7, hf⟩ := m_calE hf
  obtain ⟨q9, hf⟩ := m_chkE hf
  obtain ⟨q10, hf⟩ := m_chkE hf
  obtain ⟨S8, e11, hf⟩ := m_bndE hf
  obtain ⟨n_S8, k_S8⟩ := nk_A n_S6 (nq_cl n_S6 q8 (by decide) (Or.inl w_x0) p_b7) q9 e11
  replace k_S8 := ke_t k_S6 k_S8
  obtain ⟨n_9, k_9⟩ := ke_X0_play_118  n_S8 w_x0 hf
  exact ⟨n_9, ke_t k_S8 k_9⟩
theorem ke_X0_play_66 {o : Int32 × ZS} {x0 : Nat} {x2 : Int32} {x3 : Int32} {x4 : Int32} {x5 : Int32} {S : ZS}  (hN : NQ S) (w_x0 : WS x0) (hf : f_X0_play_66 x0 x2 x3 x4 x5 S = some o) : NQ o.2 ∧ KE S o.2 := by
  unfold f_X0_play_66 at hf
  obtain ⟨q1, hf⟩ := m_chkE hf
  obtain ⟨o1, ho, hf⟩ := m_calE hf
  have r_o1 := ro_X0_castles ho
  have n_o1 : NQ o1.2 := by rw [r_o1]; exact hN
  have k_o1 : KE S o1.2 := by rw [r_o1]; exact ke_0
  clear ho
  rcases m_ifE hf with ⟨-, hf⟩ | ⟨-, hf⟩
  ·
    obtain ⟨n_9, k_9⟩ := ke_X0_play_118  n_o1 w_x0 hf
    exact ⟨n_9, ke_t k_o1 k_9⟩
  ·
    rcases m_ifE hf with ⟨-, hf⟩ | ⟨-, hf⟩
    ·
      obtain ⟨v2, -, hf⟩ := m_bndE hf
      obtain ⟨n_9, k_9⟩ := ke_X0_play_91  n_o1 w_x0 hf
      exact ⟨n_9, ke_t k_o1 k_9⟩
    ·
      obtain ⟨v3, -, hf⟩ := m_bndE hf
      obtain ⟨n_9, k_9⟩ := ke_X0_play_91  n_o1 w_x0 hf
      exact ⟨n_9, ke_t k_o1 k_9⟩
theorem ke_X0_play_36 {o : Int32 × ZS} {x0 : Nat} {x2 : Int32} {x3 : Int32} {x4 : Int32} {t0 : Int32} {S : ZS}  (hN : NQ S) (w_x0 : WS x0) (hf : f_X0_play_36 x0 x2 x3 x4 t0 S = some o) : NQ o.2 ∧ KE S o.2 := by
  unfold f_X0_play_36 at hf
  rcases m_ifE hf with ⟨-, hf⟩ | ⟨-, hf⟩
  ·
    obtain ⟨n_9, k_9⟩ := ke_X0_play_66  hN w_x0 hf
    exact ⟨n_9, ke_t ke_0 k_9⟩
  ·
    obtain ⟨q1, hf⟩ := m_chkE hf
    rcases m_ifE hf with ⟨-, hf⟩ | ⟨-, hf⟩
    ·
      obtain ⟨q2, hf⟩ := m_chkE hf
      obtain ⟨b1, p_b1, hf⟩ := m_calE hf
      obtain ⟨v2, -, hf⟩ := m_bndE hf
      obtain ⟨v3, -, hf⟩ := m_bndE hf
      obtain ⟨v4, -, hf⟩ := m_bndE hf
      obtain ⟨q3, hf⟩ := m_chkE hf
      obtain ⟨q4, hf⟩ := m_chkE hf
      obtain ⟨S5, e5, hf⟩ := m_bndE hf
      obtain ⟨n_S5, k_S5⟩ := nk_A hN (nq_cl hN q2 (by decide) (Or.inl w_x0) p_b1) q3 e5
      replace k_S5 := ke_t ke_0 k_S5
      obtain ⟨n_9, k_9⟩ := ke_X0_play_66  n_S5 w_x0 hf
      exact ⟨n_9, ke_t k_S5 k_9⟩
    ·
      obtain ⟨n_9, k_9⟩ := ke_X0_play_66  hN w_x0 hf
      exact ⟨n_9, ke_t ke_0 k_9⟩
theorem ke_X0_play_0 {o : Int32 × ZS} {x0 : Nat} {x1 : Int32} {S : ZS}  (hN : NQ S) (w_x0 : WS x0) (hf : f_X0_play_0 x0 x1 S = some o) : NQ o.2 ∧ KE S o.2 := by
  unfold f_X0_play_0 at hf
  obtain ⟨v1, -, hf⟩ := m_bndE hf
  obtain ⟨v2, -, hf⟩ := m_bndE hf
  obtain ⟨v3, -, hf⟩ := m_bndE hf
  obtain ⟨v4, -, hf⟩ := m_bndE hf
  obtain ⟨v5, -, hf⟩ := m_bndE hf
  obtain ⟨q1, hf⟩ := m_chkE hf
  obtain ⟨o6, ho, hf⟩ := m_calE hf
  have r_o6 := ro_X0_kindAt ho
  have n_o6 : NQ o6.2 := by rw [r_o6]; exact hN
  have k_o6 : KE S o6.2 := by rw [r_o6]; exact ke_0
  clear ho
  rcases m_ifE hf with ⟨-, hf⟩ | ⟨-, hf⟩
  ·
    obtain ⟨n_9, k_9⟩ := ke_X0_play_36  n_o6 w_x0 hf
    exact ⟨n_9, ke_t k_o6 k_9⟩
  ·
    obtain ⟨n_9, k_9⟩ := ke_X0_play_36  n_o6 w_x0 hf
    exact ⟨n_9, ke_t k_o6 k_9⟩
theorem ke_X0_play {o : Int32 × ZS} {x0 : Nat} {x1 : Int32} {S : ZS}  (hN : NQ S) (w_x0 : WS x0) (hf : f_X0_play x0 x1 S = some o) : NQ o.2 ∧ KE S o.2 := by
  unfold f_X0_play at hf
  obtain ⟨n_9, k_9⟩ := ke_X0_play_0  hN w_x0 hf
  exact ⟨n_9, ke_t ke_0 k_9⟩
theorem ke_X6_keep_17 {o : Int32 × ZS} {S : ZS}  (hN : NQ S)  (hf : f_X6_keep_17 S = some o) : NQ o.2 ∧ KE S o.2 := by
  unfold f_X6_keep_17 at hf
  cases hf
  exact ⟨hN, ke_0⟩
theorem ke_X6_keep_0 {o : Int32 × ZS} {x0 : Nat} {x1 : Int32} {S : ZS}  (hN : NQ S) (w_x0 : WS x0) (hf : f_X6_keep_0 x0 x1 S = some o) : NQ o.2 ∧ KE S o.2 := by
  unfold f_X6_keep_0 at hf
  rcases m_ifE hf with ⟨-, hf⟩ | ⟨-, hf⟩
  ·
    obtain ⟨n_9, k_9⟩ := ke_X6_keep_17  hN  hf
    exact ⟨n_9, ke_t ke_0 k_9⟩
  ·
    obtain ⟨q1, hf⟩ := m_chkE hf
    rcases m_ifE hf with ⟨-, hf⟩ | ⟨-, hf⟩
    ·
      obtain ⟨n_9, k_9⟩ := ke_X6_keep_17  hN  hf
      exact ⟨n_9, ke_t ke_0 k_9⟩
    ·
      obtain ⟨q2, hf⟩ := m_chkE hf
      obtain ⟨S1, e3, hf⟩ := m_bndE hf
      obtain ⟨n_S1, k_S1⟩ := nk_I hN w_x0 e3
      replace k_S1 := ke_t ke_0 k_S1
      obtain ⟨n_9, k_9⟩ := ke_X6_keep_17  n_S1  hf
      exact ⟨n_9, ke_t k_S1 k_9⟩
theorem ke_X6_keep {o : Int32 × ZS} {x0 : Nat} {x1 : Int32} {S : ZS}  (hN : NQ S) (w_x0 : WS x0) (hf : f_X6_keep x0 x1 S = some o) : NQ o.2 ∧ KE S o.2 := by
  unfold f_X6_keep at hf
  obtain ⟨n_9, k_9⟩ := ke_X6_keep_0  hN w_x0 hf
  exact ⟨n_9, ke_t ke_0 k_9⟩
theorem ke_X8_parseApart_104 {o : Int32 × ZS} {t0 : Int32} {S : ZS}  (hN : NQ S)  (hf : f_X8_parseApart_104 t0 S = some o) : NQ o.2 ∧ KE S o.2 := by
  unfold f_X8_parseApart_104 at hf
  obtain ⟨-, hf⟩ := m_chkE hf
  cases hf
  exact ⟨hN, ke_0⟩
theorem ke_X8_parseApart_94 {o : Int32 × ZS} {x2 : Int32} {x3 : Int32} {S : ZS}  (hN : NQ S)  (hf : f_X8_parseApart_94 x2 x3 S = some o) : NQ o.2 ∧ KE S o.2 := by
  unfold f_X8_parseApart_94 at hf
  rcases m_ifE hf with ⟨-, hf⟩ | ⟨-, hf⟩
  ·
    obtain ⟨n_9, k_9⟩ := ke_X8_parseApart_104  hN  hf
    exact ⟨n_9, ke_t ke_0 k_9⟩
  ·
    obtain ⟨n_9, k_9⟩ := ke_X8_parseApart_104  hN  hf
    exact ⟨n_9, ke_t ke_0 k_9⟩
theorem ke_X8_parseApart_49 {o : Int32 × ZS} {x0 : Nat} {x2 : Int32} {x3 : Int32} {S : ZS}  (hN : NQ S) (w_x0 : WS x0) (hf : f_X8_parseApart_49 x0 x2 x3 S = some o) : NQ o.2 ∧ KE S o.2 := by
  unfold f_X8_parseApart_49 at hf
  rcases m_ifE hf with ⟨-, hf⟩ | ⟨-, hf⟩
  ·
    obtain ⟨n_9, k_9⟩ := ke_X8_parseApart_94  hN  hf
    exact ⟨n_9, ke_t ke_0 k_9⟩
  ·
    obtain ⟨q1, hf⟩ := m_chkE hf
    rcases m_ifE hf with ⟨-, hf⟩ | ⟨-, hf⟩
    ·
      obtain ⟨n_9, k_9⟩ := ke_X8_parseApart_94  hN  hf
      exact ⟨n_9, ke_t ke_0 k_9⟩
    ·
      obtain ⟨q2, hf⟩ := m_chkE hf
      obtain ⟨b1, p_b1, hf⟩ := m_calE hf
      obtain ⟨q3, hf⟩ := m_chkE hf
      obtain ⟨o2, ho, hf⟩ := m_calE hf
      have r_o2 := ro_X6_at ho
      have n_o2 : NQ o2.2 := by rw [r_o2]; exact hN
      have k_o2 : KE S o2.2 := by rw [r_o2]; exact ke_0
      clear ho
      obtain ⟨o3, ho, hf⟩ := m_calE hf
      have r_o3 := ro_X11_isRank ho
      have n_o3 : NQ o3.2 := by rw [r_o3]; exact n_o2
      have k_o3 : KE S o3.2 := by rw [r_o3]; exact k_o2
      clear ho
      rcases m_ifE hf with ⟨-, hf⟩ | ⟨-, hf⟩
      ·
        obtain ⟨n_9, k_9⟩ := ke_X8_parseApart_94  n_o3  hf
        exact ⟨n_9, ke_t k_o3 k_9⟩
      ·
        obtain ⟨q4, hf⟩ := m_chkE hf
        obtain ⟨b4, p_b4, hf⟩ := m_calE hf
        obtain ⟨q5, hf⟩ := m_chkE hf
        obtain ⟨o5, ho, hf⟩ := m_calE hf
        have r_o5 := ro_X6_at ho
        have n_o5 : NQ o5.2 := by rw [r_o5]; exact n_o3
        have k_o5 : KE S o5.2 := by rw [r_o5]; exact k_o3
        clear ho
        obtain ⟨v6, -, hf⟩ := m_bndE hf
        obtain ⟨q6, hf⟩ := m_chkE hf
        obtain ⟨S7, e7, hf⟩ := m_bndE hf
        obtain ⟨n_S7, k_S7⟩ := nk_I n_o5 w_x0 e7
        replace k_S7 := ke_t k_o5 k_S7
        obtain ⟨v8, -, hf⟩ := m_bndE hf
        obtain ⟨n_9, k_9⟩ := ke_X8_parseApart_94  n_S7  hf
        exact ⟨n_9, ke_t k_S7 k_9⟩
theorem ke_X8_parseApart_0 {o : Int32 × ZS} {x0 : Nat} {x1 : Int32} {x2 : Int32} {S : ZS}  (hN : NQ S) (w_x0 : WS x0) (hf : f_X8_parseApart_0 x0 x1 x2 S = some o) : NQ o.2 ∧ KE S o.2 := by
  unfold f_X8_parseApart_0 at hf
  obtain ⟨q1, hf⟩ := m_chkE hf
  obtain ⟨S1, e2, hf⟩ := m_bndE hf
  obtain ⟨n_S1, k_S1⟩ := nk_I hN w_x0 e2
  replace k_S1 := ke_t ke_0 k_S1
  obtain ⟨q3, hf⟩ := m_chkE hf
  obtain ⟨S2, e4, hf⟩ := m_bndE hf
  obtain ⟨n_S2, k_S2⟩ := nk_I n_S1 w_x0 e4
  replace k_S2 := ke_t k_S1 k_S2
  rcases m_ifE hf with ⟨-, hf⟩ | ⟨-, hf⟩
  ·
    obtain ⟨n_9, k_9⟩ := ke_X8_parseApart_49  n_S2 w_x0 hf
    exact ⟨n_9, ke_t k_S2 k_9⟩
  ·
    obtain ⟨q5, hf⟩ := m_chkE hf
    obtain ⟨b3, p_b3, hf⟩ := m_calE hf
    obtain ⟨q6, hf⟩ := m_chkE hf
    obtain ⟨o4, ho, hf⟩ := m_calE hf
    have r_o4 := ro_X6_at ho
    have n_o4 : NQ o4.2 := by rw [r_o4]; exact n_S2
    have k_o4 : KE S o4.2 := by rw [r_o4]; exact k_S2
    clear ho
    obtain ⟨o5, ho, hf⟩ := m_calE hf
    have r_o5 := ro_X11_isFile ho
    have n_o5 : NQ o5.2 := by rw [r_o5]; exact n_o4
    have k_o5 : KE S o5.2 := by rw [r_o5]; exact k_o4
    clear ho
    rcases m_ifE hf with ⟨-, hf⟩ | ⟨-, hf⟩
    ·
      obtain ⟨n_9, k_9⟩ := ke_X8_parseApart_49  n_o5 w_x0 hf
      exact ⟨n_9, ke_t k_o5 k_9⟩
    ·
      obtain ⟨q7, hf⟩ := m_chkE hf
      obtain ⟨b6, p_b6, hf⟩ := m_calE hf
      obtain ⟨q8, hf⟩ := m_chkE hf
      obtain ⟨o7, ho, hf⟩ := m_calE hf
      have r_o7 := ro_X6_at ho
      have n_o7 : NQ o7.2 := by rw [r_o7]; exact n_o5
      have k_o7 : KE S o7.2 := by rw [r_o7]; exact k_o5
      clear ho
      obtain ⟨v8, -, hf⟩ := m_bndE hf
      obtain ⟨q9, hf⟩ := m_chkE hf
      obtain ⟨S9, e10, hf⟩ := m_bndE hf
      obtain ⟨n_S9, k_S9⟩ := nk_I n_o7 w_x0 e10
      replace k_S9 := ke_t k_o7 k_S9
      obtain ⟨v10, -, hf⟩ := m_bndE hf
      obtain ⟨n_9, k_9⟩ := ke_X8_parseApart_49  n_S9 w_x0 hf
      exact ⟨n_9, ke_t k_S9 k_9⟩
theorem ke_X8_parseApart {o : Int32 × ZS} {x0 : Nat} {x1 : Int32} {x2 : Int32} {S : ZS}  (hN : NQ S) (w_x0 : WS x0) (hf : f_X8_parseApart x0 x1 x2 S = some o) : NQ o.2 ∧ KE S o.2 := by
  unfold f_X8_parseApart at hf
  obtain ⟨n_9, k_9⟩ := ke_X8_parseApart_0  hN w_x0 hf
  exact ⟨n_9, ke_t ke_0 k_9⟩
theorem ke_X8_parse_232 {o : Int32 × ZS} {x0 : Nat} {x1 : Int32} {x2 : Int32} {t0 : Int32} {t1 : Nat} {S : ZS}  (hN : NQ S) (w_x0 : WS x0) (w_t1 : WS t1) (hf : f_X8_parse_232 x0 x1 x2 t0 t1 S = some o) : NQ o.2 ∧ KE S o.2 := by
  unfold f_X8_parse_232 at hf
  obtain ⟨q1, hf⟩ := m_chkE hf
  obtain ⟨S1, e2, hf⟩ := m_bndE hf
  obtain ⟨n_S1, k_S1⟩ := nk_I hN w_t1 e2
  replace k_S1 := ke_t ke_0 k_S1
  obtain ⟨q3, hf⟩ := m_chkE hf
  obtain ⟨v2, -, hf⟩ := m_bndE hf
  obtain ⟨q4, hf⟩ := m_chkE hf
  obtain ⟨o3, ho, hf⟩ := m_calE hf
  obtain ⟨n_o3, k_o3⟩ := ke_X8_parseApart n_S1 w_x0 ho
  replace k_o3 := ke_t k_S1 k_o3
  clear ho
  obtain ⟨-, hf⟩ := m_chkE hf
  cases hf
  exact ⟨n_o3, k_o3⟩
theorem ke_X8_parse_231 {o : Int32 × ZS} {x0 : Nat} {x1 : Int32} {x2 : Int32} {t0 : Nat} {S : ZS}  (hN : NQ S) (w_x0 : WS x0) (w_t0 : WS t0) (hf : f_X8_parse_231 x0 x1 x2 t0 S = some o) : NQ o.2 ∧ KE S o.2 := by
  unfold f_X8_parse_231 at hf
  obtain ⟨n_9, k_9⟩ := ke_X8_parse_232  hN w_x0 w_t0 hf
  exact ⟨n_9, ke_t ke_0 k_9⟩
theorem ke_X8_parse_166 {o : Int32 × ZS} {x0 : Nat} {x1 : Int32} {x2 : Int32} {S : ZS}  (hN : NQ S) (w_x0 : WS x0) (hf : f_X8_parse_166 x0 x1 x2 S = some o) : NQ o.2 ∧ KE S o.2 := by
  unfold f_X8_parse_166 at hf
  obtain ⟨q1, hf⟩ := m_chkE hf
  obtain ⟨b1, p_b1, hf⟩ := m_calE hf
  obtain ⟨v2, -, hf⟩ := m_bndE hf
  obtain ⟨q2, hf⟩ := m_chkE hf
  obtain ⟨o3, ho, hf⟩ := m_calE hf
  have r_o3 := ro_X6_at ho
  have n_o3 : NQ o3.2 := by rw [r_o3]; exact hN
  have k_o3 : KE S o3.2 := by rw [r_o3]; exact ke_0
  clear ho
  obtain ⟨q3, hf⟩ := m_chkE hf
  obtain ⟨b4, p_b4, hf⟩ := m_calE hf
  obtain ⟨v5, -, hf⟩ := m_bndE hf
  obtain ⟨q4, hf⟩ := m_chkE hf
  obtain ⟨o6, ho, hf⟩ := m_calE hf
  have r_o6 := ro_X6_at ho
  have n_o6 : NQ o6.2 := by rw [r_o6]; exact n_o3
  have k_o6 : KE S o6.2 := by rw [r_o6]; exact k_o3
  clear ho
  obtain ⟨o7, ho, hf⟩ := m_calE hf
  have r_o7 := ro_X11_squareOf ho
  have n_o7 : NQ o7.2 := by rw [r_o7]; exact n_o6
  have k_o7 : KE S o7.2 := by rw [r_o7]; exact k_o6
  clear ho
  obtain ⟨q5, hf⟩ := m_chkE hf
  obtain ⟨S8, e6, hf⟩ := m_bndE hf
  obtain ⟨n_S8, k_S8⟩ := nk_I n_o7 w_x0 e6
  replace k_S8 := ke_t k_o7 k_S8
  obtain ⟨v9, -, hf⟩ := m_bndE hf
  obtain ⟨q7, hf⟩ := m_chkE hf
  rcases m_ifE hf with ⟨-, hf⟩ | ⟨-, hf⟩
  ·
    obtain ⟨-, hf⟩ := m_chkE hf
    cases hf
    exact ⟨n_S8, k_S8⟩
  ·
    rcases m_ifE hf with ⟨-, hf⟩ | ⟨-, hf⟩
    ·
      obtain ⟨n_9, k_9⟩ := ke_X8_parse_231  n_S8 w_x0 w_x0 hf
      exact ⟨n_9, ke_t k_S8 k_9⟩
    ·
      obtain ⟨q8, hf⟩ := m_chkE hf
      obtain ⟨b10, p_b10, hf⟩ := m_calE hf
      obtain ⟨v11, -, hf⟩ := m_bndE hf
      obtain ⟨q9, hf⟩ := m_chkE hf
      obtain ⟨o12, ho, hf⟩ := m_calE hf
      have r_o12 := ro_X6_at ho
      have n_o12 : NQ o12.2 := by rw [r_o12]; exact n_S8
      have k_o12 : KE S o12.2 := by rw [r_o12]; exact k_S8
      clear ho
      rcases m_ifE hf with ⟨-, hf⟩ | ⟨-, hf⟩
      ·
        obtain ⟨n_9, k_9⟩ := ke_X8_parse_232  n_o12 w_x0 w_x0 hf
        exact ⟨n_9, ke_t k_o12 k_9⟩
      ·
        obtain ⟨n_9, k_9⟩ := ke_X8_parse_231  n_o12 w_x0 w_x0 hf
        exact ⟨n_9, ke_t k_o12 k_9⟩
theorem ke_X8_parse_161 {o : Int32 × ZS} {S : ZS}  (hN : NQ S)  (hf : f_X8_parse_161 S = some o) : NQ o.2 ∧ KE S o.2 := by
  unfold f_X8_parse_161 at hf
  obtain ⟨-, hf⟩ := m_chkE hf
  cases hf
  exact ⟨hN, ke_0⟩
theorem ke_X8_parse_102 {o : Int32 × ZS} {x0 : Nat} {x1 : Int32} {x2 : Int32} {t0 : Int32} {t1 : Nat} {S : ZS}  (hN : NQ S) (w_x0 : WS x0) (w_t1 : WS t1) (hf : f_X8_parse_102 x0 x1 x2 t0 t1 S = some o) : NQ o.2 ∧ KE S o.2 := by
  unfold f_X8_parse_102 at hf
  obtain ⟨q1, hf⟩ := m_chkE hf
  obtain ⟨S1, e2, hf⟩ := m_bndE hf
  obtain ⟨n_S1, k_S1⟩ := nk_I hN w_t1 e2
  replace k_S1 := ke_t ke_0 k_S1
  obtain ⟨q3, hf⟩ := m_chkE hf
  rcases m_ifE hf with ⟨-, hf⟩ | ⟨-, hf⟩
  ·
    obtain ⟨q4, hf⟩ := m_chkE hf
    obtain ⟨b2, p_b2, hf⟩ := m_calE hf
    obtain ⟨v3, -, hf⟩ := m_bndE hf
    obtain ⟨q5, hf⟩ := m_chkE hf
    obtain ⟨o4, ho, hf⟩ := m_calE hf
    have r_o4 := ro_X6_at ho
    have n_o4 : NQ o4.2 := by rw [r_o4]; exact n_S1
    have k_o4 : KE S o4.2 := by rw [r_o4]; exact k_S1
    clear ho
    rcases m_ifE hf with ⟨-, hf⟩ | ⟨-, hf⟩
    ·
      obtain ⟨q6, hf⟩ := m_chkE hf
      obtain ⟨b5, p_b5, hf⟩ := m_calE hf
      obtain ⟨v6, -, hf⟩ := m_bndE hf
      obtain ⟨q7, hf⟩ := m_chkE hf
      obtain ⟨o7, ho, hf⟩ := m_calE hf
      have r_o7 := ro_X6_at ho
      have n_o7 : NQ o7.2 := by rw [r_o7]; exact n_o4
      have k_o7 : KE S o7.2 := by rw [r_o7]; exact k_o4
      clear ho
      obtain ⟨o8, ho, hf⟩ := m_calE hf
      have r_o8 := ro_X11_kindOf ho
      have n_o8 : NQ o8.2 := by rw [r_o8]; exact n_o7
      have k_o8 : KE S o8.2 := by rw [r_o8]; exact k_o7
      clear ho
      obtain ⟨q8, hf⟩ := m_chkE hf
      obtain ⟨S9, e9, hf⟩ := m_bndE hf
      obtain ⟨n_S9, k_S9⟩ := nk_I n_o8 w_x0 e9
      replace k_S9 := ke_t k_o8 k_S9
      obtain ⟨q10, hf⟩ := m_chkE hf
      rcases m_ifE hf with ⟨-, hf⟩ | ⟨-, hf⟩
      ·
        obtain ⟨n_9, k_9⟩ := ke_X8_parse_161  n_S9  hf
        exact ⟨n_9, ke_t k_S9 k_9⟩
      ·
        obtain ⟨q11, hf⟩ := m_chkE hf
        rcases m_ifE hf with ⟨-, hf⟩ | ⟨-, hf⟩
        ·
          obtain ⟨v10, -, hf⟩ := m_bndE hf
          obtain ⟨n_9, k_9⟩ := ke_X8_parse_166  n_S9 w_x0 hf
          exact ⟨n_9, ke_t k_S9 k_9⟩
        ·
          obtain ⟨n_9, k_9⟩ := ke_X8_parse_161  n_S9  hf
          exact ⟨n_9, ke_t k_S9 k_9⟩
    ·
      obtain ⟨n_9, k_9⟩ := ke_X8_parse_166  n_o4 w_x0 hf
      exact ⟨n_9, ke_t k_o4 k_9⟩
  ·
    obtain ⟨n_9, k_9⟩ := ke_X8_parse_166  n_S1 w_x0 hf
    exact ⟨n_9, ke_t k_S1 k_9⟩
theorem ke_X8_parse_72 {o : Int32 × ZS} {x0 : Nat} {t0 : Int32} {S : ZS}  (hN : NQ S) (w_x0 : WS x0) (hf : f_X8_parse_72 x0 t0 S = some o) : NQ o.2 ∧ KE S o.2 := by
  unfold f_X8_parse_72 at hf
  obtain ⟨q1, hf⟩ := m_chkE hf
  obtain ⟨b1, p_b1, hf⟩ := m_calE hf
  obtain ⟨q2, hf⟩ := m_chkE hf
  obtain ⟨o2, ho, hf⟩ := m_calE hf
  have r_o2 := ro_X6_size ho
  have n_o2 : NQ o2.2 := by rw [r_o2]; exact hN
  have k_o2 : KE S o2.2 := by rw [r_o2]; exact ke_0
  clear ho
  rcases m_ifE hf with ⟨-, hf⟩ | ⟨-, hf⟩
  ·
    obtain ⟨q3, hf⟩ := m_chkE hf
    obtain ⟨b3, p_b3, hf⟩ := m_calE hf
    obtain ⟨q4, hf⟩ := m_chkE hf
    obtain ⟨o4, ho, hf⟩ := m_calE hf
    have r_o4 := ro_X6_at ho
    have n_o4 : NQ o4.2 := by rw [r_o4]; exact n_o2
    have k_o4 : KE S o4.2 := by rw [r_o4]; exact k_o2
    clear ho
    obtain ⟨o5, ho, hf⟩ := m_calE hf
    have r_o5 := ro_X11_kindOf ho
    have n_o5 : NQ o5.2 := by rw [r_o5]; exact n_o4
    have k_o5 : KE S o5.2 := by rw [r_o5]; exact k_o4
    clear ho
    obtain ⟨n_9, k_9⟩ := ke_X8_parse_102  n_o5 w_x0 w_x0 hf
    exact ⟨n_9, ke_t k_o5 k_9⟩
  ·
    obtain ⟨n_9, k_9⟩ := ke_X8_parse_102  n_o2 w_x0 w_x0 hf
    exact ⟨n_9, ke_t k_o2 k_9⟩
theorem ke_X8_parse_40 {o : Int32 × ZS} {x0 : Nat} {t0 : Int32} {t1 : Nat} {S : ZS}  (hN : NQ S) (w_x0 : WS x0) (w_t1 : WS t1) (hf : f_X8_parse_40 x0 t0 t1 S = some o) : NQ o.2 ∧ KE S o.2 := by
  unfold f_X8_parse_40 at hf
  obtain ⟨q1, hf⟩ := m_chkE hf
  obtain ⟨S1, e2, hf⟩ := m_bndE hf
  obtain ⟨n_S1, k_S1⟩ := nk_I hN w_t1 e2
  replace k_S1 := ke_t ke_0 k_S1
  obtain ⟨q3, hf⟩ := m_chkE hf
  rcases m_ifE hf with ⟨-, hf⟩ | ⟨-, hf⟩
  ·
    obtain ⟨q4, hf⟩ := m_chkE hf
    obtain ⟨b2, p_b2, hf⟩ := m_calE hf
    obtain ⟨q5, hf⟩ := m_chkE hf
    obtain ⟨o3, ho, hf⟩ := m_calE hf
    have r_o3 := ro_X6_at ho
    have n_o3 : NQ o3.2 := by rw [r_o3]; exact n_S1
    have k_o3 : KE S o3.2 := by rw [r_o3]; exact k_S1
    clear ho
    obtain ⟨o4, ho, hf⟩ := m_calE hf
    have r_o4 := ro_X11_kindOf ho
    have n_o4 : NQ o4.2 := by rw [r_o4]; exact n_o3
    have k_o4 : KE S o4.2 := by rw [r_o4]; exact k_o3
    clear ho
    rcases m_ifE hf with ⟨-, hf⟩ | ⟨-, hf⟩
    ·
      obtain ⟨n_9, k_9⟩ := ke_X8_parse_72  n_o4 w_x0 hf
      exact ⟨n_9, ke_t k_o4 k_9⟩
    ·
      obtain ⟨n_9, k_9⟩ := ke_X8_parse_72  n_o4 w_x0 hf
      exact ⟨n_9, ke_t k_o4 k_9⟩
  ·
    obtain ⟨-, hf⟩ := m_chkE hf
    cases hf
    exact ⟨n_S1, k_S1⟩
theorem ke_X8_parse_0 {o : Int32 × ZS} {x0 : Nat} {S : ZS}  (hN : NQ S) (w_x0 : WS x0) (hf : f_X8_parse_0 x0 S = some o) : NQ o.2 ∧ KE S o.2 := by
  unfold f_X8_parse_0 at hf
  obtain ⟨q1, hf⟩ := m_chkE hf
  obtain ⟨S1, e2, hf⟩ := m_bndE hf
  obtain ⟨n_S1, k_S1⟩ := nk_I hN w_x0 e2
  replace k_S1 := ke_t ke_0 k_S1
  obtain ⟨q3, hf⟩ := m_chkE hf
  obtain ⟨b2, p_b2, hf⟩ := m_calE hf
  obtain ⟨q4, hf⟩ := m_chkE hf
  obtain ⟨o3, ho, hf⟩ := m_calE hf
  have r_o3 := ro_X6_is ho
  have n_o3 : NQ o3.2 := by rw [r_o3]; exact n_S1
  have k_o3 : KE S o3.2 := by rw [r_o3]; exact k_S1
  clear ho
  rcases m_ifE hf with ⟨-, hf⟩ | ⟨-, hf⟩
  ·
    obtain ⟨q5, hf⟩ := m_chkE hf
    obtain ⟨b4, p_b4, hf⟩ := m_calE hf
    obtain ⟨q6, hf⟩ := m_chkE hf
    obtain ⟨o5, ho, hf⟩ := m_calE hf
    have r_o5 := ro_X6_is ho
    have n_o5 : NQ o5.2 := by rw [r_o5]; exact n_o3
    have k_o5 : KE S o5.2 := by rw [r_o5]; exact k_o3
    clear ho
    rcases m_ifE hf with ⟨-, hf⟩ | ⟨-, hf⟩
    ·
      obtain ⟨n_9, k_9⟩ := ke_X8_parse_40  n_o5 w_x0 w_x0 hf
      exact ⟨n_9, ke_t k_o5 k_9⟩
    ·
      obtain ⟨n_9, k_9⟩ := ke_X8_parse_40  n_o5 w_x0 w_x0 hf
      exact ⟨n_9, ke_t k_o5 k_9⟩
  ·
    obtain ⟨n_9, k_9⟩ := ke_X8_parse_40  n_o3 w_x0 w_x0 hf
    exact ⟨n_9, ke_t k_o3 k_9⟩
theorem ke_X8_parse {o : Int32 × ZS} {x0 : Nat} {S : ZS}  (hN : NQ S) (w_x0 : WS x0) (hf : f_X8_parse x0 S = some o) : NQ o.2 ∧ KE S o.2 := by
  unfold f_X8_parse at hf
  obtain ⟨n_9, k_9⟩ := ke_X8_parse_0  hN w_x0 hf
  exact ⟨n_9, ke_t ke_0 k_9⟩
theorem ke_X7_isSafe_105 {o : Int32 × ZS} {t0 : Int32} {S : ZS}  (hN : NQ S)  (hf : f_X7_isSafe_105 t0 S = some o) : NQ o.2 ∧ KE S o.2 := by
  unfold f_X7_isSafe_105 at hf
  obtain ⟨-, hf⟩ := m_chkE hf
  cases hf
  exact ⟨hN, ke_0⟩
theorem ke_X7_isSafe_61 {o : Int32 × ZS} {x0 : Nat} {x1 : Nat} {x2 : Int32} {x5 : Int32} {S : ZS}  (hN : NQ S) (w_x0 : WS x0) (hf : f_X7_isSafe_61 x0 x1 x2 x5 S = some o) : NQ o.2 ∧ KE S o.2 := by
  unfold f_X7_isSafe_61 at hf
  obtain ⟨q1, hf⟩ := m_chkE hf
  obtain ⟨b1, p_b1, hf⟩ := m_calE hf
  obtain ⟨q2, hf⟩ := m_chkE hf
  obtain ⟨o2, ho, hf⟩ := m_calE hf
  obtain ⟨n_o2, k_o2⟩ := ke_X0_copyFrom hN (nq_cl hN q1 (by decide) (Or.inl w_x0) p_b1) ho
  replace k_o2 := ke_t ke_0 k_o2
  clear ho
  obtain ⟨q3, hf⟩ := m_chkE hf
  obtain ⟨b3, p_b3, hf⟩ := m_calE hf
  obtain ⟨q4, hf⟩ := m_chkE hf
  obtain ⟨o4, ho, hf⟩ := m_calE hf
  obtain ⟨n_o4, k_o4⟩ := ke_X0_play n_o2 (nq_cl n_o2 q3 (by decide) (Or.inl w_x0) p_b3) ho
  replace k_o4 := ke_t k_o2 k_o4
  clear ho
  obtain ⟨q5, hf⟩ := m_chkE hf
  obtain ⟨b5, p_b5, hf⟩ := m_calE hf
  obtain ⟨q6, hf⟩ := m_chkE hf
  obtain ⟨b6, p_b6, hf⟩ := m_calE hf
  obtain ⟨q7, hf⟩ := m_chkE hf
  obtain ⟨o7, ho, hf⟩ := m_calE hf
  have r_o7 := ro_X0_kingOf ho
  have n_o7 : NQ o7.2 := by rw [r_o7]; exact n_o4
  have k_o7 : KE S o7.2 := by rw [r_o7]; exact k_o4
  clear ho
  obtain ⟨v8, -, hf⟩ := m_bndE hf
  obtain ⟨q8, hf⟩ := m_chkE hf
  obtain ⟨o9, ho, hf⟩ := m_calE hf
  have r_o9 := ro_X0_attacked ho
  have n_o9 : NQ o9.2 := by rw [r_o9]; exact n_o7
  have k_o9 : KE S o9.2 := by rw [r_o9]; exact k_o7
  clear ho
  rcases m_ifE hf with ⟨-, hf⟩ | ⟨-, hf⟩
  ·
    obtain ⟨n_9, k_9⟩ := ke_X7_isSafe_105  n_o9  hf
    exact ⟨n_9, ke_t k_o9 k_9⟩
  ·
    obtain ⟨n_9, k_9⟩ := ke_X7_isSafe_105  n_o9  hf
    exact ⟨n_9, ke_t k_o9 k_9⟩
theorem ke_X7_isSafe_59 {o : Int32 × ZS} {S : ZS}  (hN : NQ S)  (hf : f_X7_isSafe_59 S = some o) : NQ o.2 ∧ KE S o.2 := by
  unfold f_X7_isSafe_59 at hf
  obtain ⟨-, hf⟩ := m_chkE hf
  cases hf
  exact ⟨hN, ke_0⟩
theorem ke_X7_isSafe_0 {o : Int32 × ZS} {x0 : Nat} {x1 : Nat} {x2 : Int32} {S : ZS}  (hN : NQ S) (w_x0 : WS x0) (hf : f_X7_isSafe_0 x0 x1 x2 S = some o) : NQ o.2 ∧ KE S o.2 := by
  unfold f_X7_isSafe_0 at hf
  obtain ⟨v1, -, hf⟩ := m_bndE hf
  obtain ⟨v2, -, hf⟩ := m_bndE hf
  obtain ⟨v3, -, hf⟩ := m_bndE hf
  obtain ⟨q1, hf⟩ := m_chkE hf
  obtain ⟨q2, hf⟩ := m_chkE hf
  obtain ⟨o4, ho, hf⟩ := m_calE hf
  have r_o4 := ro_X0_castles ho
  have n_o4 : NQ o4.2 := by rw [r_o4]; exact hN
  have k_o4 : KE S o4.2 := by rw [r_o4]; exact ke_0
  clear ho
  rcases m_ifE hf with ⟨-, hf⟩ | ⟨-, hf⟩
  ·
    obtain ⟨n_9, k_9⟩ := ke_X7_isSafe_61  n_o4 w_x0 hf
    exact ⟨n_9, ke_t k_o4 k_9⟩
  ·
    obtain ⟨v5, -, hf⟩ := m_bndE hf
    obtain ⟨q3, hf⟩ := m_chkE hf
    obtain ⟨o6, ho, hf⟩ := m_calE hf
    have r_o6 := ro_X0_attacked ho
    have n_o6 : NQ o6.2 := by rw [r_o6]; exact n_o4
    have k_o6 : KE S o6.2 := by rw [r_o6]; exact k_o4
    clear ho
    rcases m_ifE hf with ⟨-, hf⟩ | ⟨-, hf⟩
    ·
      obtain ⟨v7, -, hf⟩ := m_bndE hf
      obtain ⟨v8, -, hf⟩ := m_bndE hf
      obtain ⟨v9, -, hf⟩ := m_bndE hf
      obtain ⟨q4, hf⟩ := m_chkE hf
      obtain ⟨o10, ho, hf⟩ := m_calE hf
      have r_o10 := ro_X0_attacked ho
      have n_o10 : NQ o10.2 := by rw [r_o10]; exact n_o6
      have k_o10 : KE S o10.2 := by rw [r_o10]; exact k_o6
      clear ho
      rcases m_ifE hf with ⟨-, hf⟩ | ⟨-, hf⟩
      ·
        obtain ⟨n_9, k_9⟩ := ke_X7_isSafe_61  n_o10 w_x0 hf
        exact ⟨n_9, ke_t k_o10 k_9⟩
      ·
        obtain ⟨n_9, k_9⟩ := ke_X7_isSafe_59  n_o10  hf
        exact ⟨n_9, ke_t k_o10 k_9⟩
    ·
      obtain ⟨n_9, k_9⟩ := ke_X7_isSafe_59  n_o6  hf
      exact ⟨n_9, ke_t k_o6 k_9⟩
theorem ke_X7_isSafe {o : Int32 × ZS} {x0 : Nat} {x1 : Nat} {x2 : Int32} {S : ZS}  (hN : NQ S) (w_x0 : WS x0) (hf : f_X7_isSafe x0 x1 x2 S = some o) : NQ o.2 ∧ KE S o.2 := by
  unfold f_X7_isSafe at hf
  obtain ⟨n_9, k_9⟩ := ke_X7_isSafe_0  hN w_x0 hf
  exact ⟨n_9, ke_t ke_0 k_9⟩
theorem ke_X8_gather_155 {o : Int32 × ZS} {self38 : Nat → Nat → Int32 → Int32 → ZS → Option (Int32 × ZS)} {x0 : Nat} {x1 : Nat} {x2 : Int32} {x3 : Int32} {S : ZS} (hself38 : ∀ (z0 : Nat) (z1 : Nat) (z2 : Int32) (z3 : Int32) (S : ZS) (o : Int32 × ZS), WS z0 → NQ S → self38 z0 z1 z2 z3 S = some o → NQ o.2 ∧ KE S o.2) (hN : NQ S) (w_x0 : WS x0) (hf : f_X8_gather_155 self38 x0 x1 x2 x3 S = some o) : NQ o.2 ∧ KE S o.2 := by
  unfold f_X8_gather_155 at hf
  obtain ⟨v1, -, hf⟩ := m_bndE hf
  obtain ⟨n_9, k_9⟩ := hself38 _ _ _ _ _ _ w_x0 hN hf
  exact ⟨n_9, ke_t ke_0 k_9⟩
theorem ke_X8_gather_82 {o : Int32 × ZS} {self38 : Nat → Nat → Int32 → Int32 → ZS → Option (Int32 × ZS)} {x0 : Nat} {x1 : Nat} {x2 : Int32} {x3 : Int32} {t0 : Int32} {S : ZS} (hself38 : ∀ (z0 : Nat) (z1 : Nat) (z2 : Int32) (z3 : Int32) (S : ZS) (o : Int32 × ZS), WS z0 → NQ S → self38 z0 z1 z2 z3 S = some o → NQ o.2 ∧ KE S o.2) (hN : NQ S) (w_x0 : WS x0) (hf : f_X8_gather_82 self38 x0 x1 x2 x3 t0 S = some o) : NQ o.2 ∧ KE S o.2 := by
  unfold f_X8_gather_82 at hf
  obtain ⟨q1, hf⟩ := m_chkE hf
  obtain ⟨v1, -, hf⟩ := m_bndE hf
  obtain ⟨v2, -, hf⟩ := m_bndE hf
  obtain ⟨q2, hf⟩ := m_chkE hf
  obtain ⟨v3, -, hf⟩ := m_bndE hf
  obtain ⟨v4, -, hf⟩ := m_bndE hf
  rcases m_ifE hf with ⟨-, hf⟩ | ⟨-, hf⟩
  ·
    obtain ⟨n_9, k_9⟩ := ke_X8_gather_155 hself38 hN w_x0 hf
    exact ⟨n_9, ke_t ke_0 k_9⟩
  ·
    obtain ⟨q3, hf⟩ := m_chkE hf
    obtain ⟨q4, hf⟩ := m_chkE hf
    obtain ⟨o5, ho, hf⟩ := m_calE hf
    have r_o5 := ro_X0_reaches ho
    have n_o5 : NQ o5.2 := by rw [r_o5]; exact hN
    have k_o5 : KE S o5.2 := by rw [r_o5]; exact ke_0
    clear ho
    rcases m_ifE hf with ⟨-, hf⟩ | ⟨-, hf⟩
    ·
      obtain ⟨n_9, k_9⟩ := ke_X8_gather_155 hself38 n_o5 w_x0 hf
      exact ⟨n_9, ke_t k_o5 k_9⟩
    ·
      obtain ⟨q5, hf⟩ := m_chkE hf
      obtain ⟨b6, p_b6, hf⟩ := m_calE hf
      obtain ⟨q6, hf⟩ := m_chkE hf
      obtain ⟨o7, ho, hf⟩ := m_calE hf
      obtain ⟨n_o7, k_o7⟩ := ke_X7_isSafe n_o5 (nq_cl n_o5 q5 (by decide) (Or.inl w_x0) p_b6) ho
      replace k_o7 := ke_t k_o5 k_o7
      clear ho
      rcases m_ifE hf with ⟨-, hf⟩ | ⟨-, hf⟩
      ·
        obtain ⟨n_9, k_9⟩ := ke_X8_gather_155 hself38 n_o7 w_x0 hf
        exact ⟨n_9, ke_t k_o7 k_9⟩
      ·
        obtain ⟨q7, hf⟩ := m_chkE hf
        obtain ⟨b8, p_b8, hf⟩ := m_calE hf
        obtain ⟨q8, hf⟩ := m_chkE hf
        obtain ⟨q9, hf⟩ := m_chkE hf
        obtain ⟨q10, hf⟩ := m_chkE hf
        obtain ⟨S9, e11, hf⟩ := m_bndE hf
        obtain ⟨n_S9, k_S9⟩ := nk_A n_o7 (nq_cl n_o7 q8 (by decide) (Or.inl w_x0) p_b8) q9 e11
        replace k_S9 := ke_t k_o7 k_S9
        obtain ⟨q12, hf⟩ := m_chkE hf
        obtain ⟨v10, -, hf⟩ := m_bndE hf
        obtain ⟨q13, hf⟩ := m_chkE hf
        obtain ⟨S11, e14, hf⟩ := m_bndE hf
        obtain ⟨n_S11, k_S11⟩ := nk_I n_S9 w_x0 e14
        replace k_S11 := ke_t k_S9 k_S11
        obtain ⟨n_9, k_9⟩ := ke_X8_gather_155 hself38 n_S11 w_x0 hf
        exact ⟨n_9, ke_t k_S11 k_9⟩
theorem ke_X8_gather_72 {o : Int32 × ZS} {self38 : Nat → Nat → Int32 → Int32 → ZS → Option (Int32 × ZS)} {x0 : Nat} {x1 : Nat} {x2 : Int32} {x3 : Int32} {S : ZS} (hself38 : ∀ (z0 : Nat) (z1 : Nat) (z2 : Int32) (z3 : Int32) (S : ZS) (o : Int32 × ZS), WS z0 → NQ S → self38 z0 z1 z2 z3 S = some o → NQ o.2 ∧ KE S o.2) (hN : NQ S) (w_x0 : WS x0) (hf : f_X8_gather_72 self38 x0 x1 x2 x3 S = some o) : NQ o.2 ∧ KE S o.2 := by
  unfold f_X8_gather_72 at hf
  obtain ⟨n_9, k_9⟩ := ke_X8_gather_82 hself38 hN w_x0 hf
  exact ⟨n_9, ke_t ke_0 k_9⟩
theorem ke_X8_gather_38s {o : Int32 × ZS} {self38 : Nat → Nat → Int32 → Int32 → ZS → Option (Int32 × ZS)} {x0 : Nat} {x1 : Nat} {x2 : Int32} {x3 : Int32} {S : ZS} (hself38 : ∀ (z0 : Nat) (z1 : Nat) (z2 : Int32) (z3 : Int32) (S : ZS) (o : Int32 × ZS), WS z0 → NQ S → self38 z0 z1 z2 z3 S = some o → NQ o.2 ∧ KE S o.2) (hN : NQ S) (w_x0 : WS x0) (hf : f_X8_gather_38s self38 x0 x1 x2 x3 S = some o) : NQ o.2 ∧ KE S o.2 := by
  unfold f_X8_gather_38s at hf
  rcases m_ifE hf with ⟨-, hf⟩ | ⟨-, hf⟩
  ·
    cases hf
    exact ⟨hN, ke_0⟩
  ·
    obtain ⟨q1, hf⟩ := m_chkE hf
    rcases m_ifE hf with ⟨-, hf⟩ | ⟨-, hf⟩
    ·
      obtain ⟨q2, hf⟩ := m_chkE hf
      obtain ⟨o1, ho, hf⟩ := m_calE hf
      have r_o1 := ro_X8_fitsFrom ho
      have n_o1 : NQ o1.2 := by rw [r_o1]; exact hN
      have k_o1 : KE S o1.2 := by rw [r_o1]; exact ke_0
      clear ho
      obtain ⟨n_9, k_9⟩ := ke_X8_gather_82 hself38 n_o1 w_x0 hf
      exact ⟨n_9, ke_t k_o1 k_9⟩
    ·
      rcases m_ifE hf with ⟨-, hf⟩ | ⟨-, hf⟩
      ·
        obtain ⟨q3, hf⟩ := m_chkE hf
        obtain ⟨q4, hf⟩ := m_chkE hf
        obtain ⟨o2, ho, hf⟩ := m_calE hf
        have r_o2 := ro_X0_castles ho
        have n_o2 : NQ o2.2 := by rw [r_o2]; exact hN
        have k_o2 : KE S o2.2 := by rw [r_o2]; exact ke_0
        clear ho
        rcases m_ifE hf with ⟨-, hf⟩ | ⟨-, hf⟩
        ·
          obtain ⟨n_9, k_9⟩ := ke_X8_gather_72 hself38 n_o2 w_x0 hf
          exact ⟨n_9, ke_t k_o2 k_9⟩
        ·
          obtain ⟨n_9, k_9⟩ := ke_X8_gather_82 hself38 n_o2 w_x0 hf
          exact ⟨n_9, ke_t k_o2 k_9⟩
      ·
        obtain ⟨n_9, k_9⟩ := ke_X8_gather_72 hself38 hN w_x0 hf
        exact ⟨n_9, ke_t ke_0 k_9⟩
theorem ke_X8_gather_38   (n : Nat) : ∀ (y0 : Nat) (y1 : Nat) (y2 : Int32) (y3 : Int32) (S : ZS) (o : Int32 × ZS), WS y0 → NQ S → f_X8_gather_38  n y0 y1 y2 y3 S = some o → NQ o.2 ∧ KE S o.2 := by
  induction n with
  | zero => intro y0 y1 y2 y3 S o c0 hN hf; cases hf
  | succ n ih => intro y0 y1 y2 y3 S o c0 hN hf; exact ke_X8_gather_38s ih hN c0 hf
theorem ke_X8_gather_36 {o : Int32 × ZS} {x0 : Nat} {x1 : Nat} {x2 : Int32} {S : ZS}  (hN : NQ S) (w_x0 : WS x0) (hf : f_X8_gather_36 x0 x1 x2 S = some o) : NQ o.2 ∧ KE S o.2 := by
  unfold f_X8_gather_36 at hf
  obtain ⟨n_9, k_9⟩ := ke_X8_gather_38  _ _ _ _ _ _ _ w_x0 hN hf
  exact ⟨n_9, ke_t ke_0 k_9⟩
theorem ke_X8_gather_18 {o : Int32 × ZS} {x0 : Nat} {x1 : Nat} {t0 : Int32} {S : ZS}  (hN : NQ S) (w_x0 : WS x0) (hf : f_X8_gather_18 x0 x1 t0 S = some o) : NQ o.2 ∧ KE S o.2 := by
  unfold f_X8_gather_18 at hf
  obtain ⟨q1, hf⟩ := m_chkE hf
  rcases m_ifE hf with ⟨-, hf⟩ | ⟨-, hf⟩
  ·
    obtain ⟨n_9, k_9⟩ := ke_X8_gather_36  hN w_x0 hf
    exact ⟨n_9, ke_t ke_0 k_9⟩
  ·
    obtain ⟨q2, hf⟩ := m_chkE hf
    obtain ⟨v1, -, hf⟩ := m_bndE hf
    obtain ⟨q3, hf⟩ := m_chkE hf
    obtain ⟨S2, e4, hf⟩ := m_bndE hf
    obtain ⟨n_S2, k_S2⟩ := nk_I hN w_x0 e4
    replace k_S2 := ke_t ke_0 k_S2
    obtain ⟨n_9, k_9⟩ := ke_X8_gather_36  n_S2 w_x0 hf
    exact ⟨n_9, ke_t k_S2 k_9⟩
theorem ke_X8_gather_0 {o : Int32 × ZS} {x0 : Nat} {x1 : Nat} {S : ZS}  (hN : NQ S) (w_x0 : WS x0) (hf : f_X8_gather_0 x0 x1 S = some o) : NQ o.2 ∧ KE S o.2 := by
  unfold f_X8_gather_0 at hf
  obtain ⟨q1, hf⟩ := m_chkE hf
  obtain ⟨S1, e2, hf⟩ := m_bndE hf
  obtain ⟨n_S1, k_S1⟩ := nk_I hN w_x0 e2
  replace k_S1 := ke_t ke_0 k_S1
  obtain ⟨q3, hf⟩ := m_chkE hf
  rcases m_ifE hf with ⟨-, hf⟩ | ⟨-, hf⟩
  ·
    obtain ⟨n_9, k_9⟩ := ke_X8_gather_18  n_S1 w_x0 hf
    exact ⟨n_9, ke_t k_S1 k_9⟩
  ·
    obtain ⟨n_9, k_9⟩ := ke_X8_gather_18  n_S1 w_x0 hf
    exact ⟨n_9, ke_t k_S1 k_9⟩
theorem ke_X8_gather {o : Int32 × ZS} {x0 : Nat} {x1 : Nat} {S : ZS}  (hN : NQ S) (w_x0 : WS x0) (hf : f_X8_gather x0 x1 S = some o) : NQ o.2 ∧ KE S o.2 := by
  unfold f_X8_gather at hf
  obtain ⟨n_9, k_9⟩ := ke_X8_gather_0  hN w_x0 hf
  exact ⟨n_9, ke_t ke_0 k_9⟩
theorem ke_X7_checkSign_103 {o : Int32 × ZS} {self53 : Nat → Int32 → ZS → Option (Int32 × ZS)} {self62 : Nat → Int32 → Int32 → ZS → Option (Int32 × ZS)} {x0 : Nat} {x3 : Int32} {x4 : Int32} {S : ZS} (hself53 : ∀ (z0 : Nat) (z1 : Int32) (S : ZS) (o : Int32 × ZS), WS z0 → NQ S → self53 z0 z1 S = some o → NQ o.2 ∧ KE S o.2) (hself62 : ∀ (z0 : Nat) (z1 : Int32) (z2 : Int32) (S : ZS) (o : Int32 × ZS), WS z0 → NQ S → self62 z0 z1 z2 S = some o → NQ o.2 ∧ KE S o.2) (hN : NQ S) (w_x0 : WS x0) (hf : f_X7_checkSign_103 self53 self62 x0 x3 x4 S = some o) : NQ o.2 ∧ KE S o.2 := by
  unfold f_X7_checkSign_103 at hf
  obtain ⟨v1, -, hf⟩ := m_bndE hf
  obtain ⟨n_9, k_9⟩ := hself62 _ _ _ _ _ w_x0 hN hf
  exact ⟨n_9, ke_t ke_0 k_9⟩
theorem ke_X7_checkSign_62s {o : Int32 × ZS} {self53 : Nat → Int32 → ZS → Option (Int32 × ZS)} {self62 : Nat → Int32 → Int32 → ZS → Option (Int32 × ZS)} {x0 : Nat} {x3 : Int32} {x4 : Int32} {S : ZS} (hself53 : ∀ (z0 : Nat) (z1 : Int32) (S : ZS) (o : Int32 × ZS), WS z0 → NQ S → self53 z0 z1 S = some o → NQ o.2 ∧ KE S o.2) (hself62 : ∀ (z0 : Nat) (z1 : Int32) (z2 : Int32) (S : ZS) (o : Int32 × ZS), WS z0 → NQ S → self62 z0 z1 z2 S = some o → NQ o.2 ∧ KE S o.2) (hN : NQ S) (w_x0 : WS x0) (hf : f_X7_checkSign_62s self53 self62 x0 x3 x4 S = some o) : NQ o.2 ∧ KE S o.2 := by
  unfold f_X7_checkSign_62s at hf
  rcases m_ifE hf with ⟨-, hf⟩ | ⟨-, hf⟩
  ·
    obtain ⟨v1, -, hf⟩ := m_bndE hf
    obtain ⟨n_9, k_9⟩ := hself53 _ _ _ _ w_x0 hN hf
    exact ⟨n_9, ke_t ke_0 k_9⟩
  ·
    obtain ⟨q1, hf⟩ := m_chkE hf
    obtain ⟨b2, p_b2, hf⟩ := m_calE hf
    obtain ⟨q2, hf⟩ := m_chkE hf
    obtain ⟨o3, ho, hf⟩ := m_calE hf
    have r_o3 := ro_X0_reaches ho
    have n_o3 : NQ o3.2 := by rw [r_o3]; exact hN
    have k_o3 : KE S o3.2 := by rw [r_o3]; exact ke_0
    clear ho
    rcases m_ifE hf with ⟨-, hf⟩ | ⟨-, hf⟩
    ·
      obtain ⟨n_9, k_9⟩ := ke_X7_checkSign_103 hself53 hself62 n_o3 w_x0 hf
      exact ⟨n_9, ke_t k_o3 k_9⟩
    ·
      obtain ⟨q3, hf⟩ := m_chkE hf
      obtain ⟨b4, p_b4, hf⟩ := m_calE hf
      obtain ⟨v5, -, hf⟩ := m_bndE hf
      obtain ⟨v6, -, hf⟩ := m_bndE hf
      obtain ⟨q4, hf⟩ := m_chkE hf
      obtain ⟨o7, ho, hf⟩ := m_calE hf
      obtain ⟨n_o7, k_o7⟩ := ke_X7_isSafe n_o3 w_x0 ho
      replace k_o7 := ke_t k_o3 k_o7
      clear ho
      rcases m_ifE hf with ⟨-, hf⟩ | ⟨-, hf⟩
      ·
        obtain ⟨n_9, k_9⟩ := ke_X7_checkSign_103 hself53 hself62 n_o7 w_x0 hf
        exact ⟨n_9, ke_t k_o7 k_9⟩
      ·
        obtain ⟨-, hf⟩ := m_chkE hf
        cases hf
        exact ⟨n_o7, k_o7⟩
theorem ke_X7_checkSign_62 {self53 : Nat → Int32 → ZS → Option (Int32 × ZS)} (hself53 : ∀ (z0 : Nat) (z1 : Int32) (S : ZS) (o : Int32 × ZS), WS z0 → NQ S → self53 z0 z1 S = some o → NQ o.2 ∧ KE S o.2) (n : Nat) : ∀ (y0 : Nat) (y1 : Int32) (y2 : Int32) (S : ZS) (o : Int32 × ZS), WS y0 → NQ S → f_X7_checkSign_62 self53 n y0 y1 y2 S = some o → NQ o.2 ∧ KE S o.2 := by
  induction n with
  | zero => intro y0 y1 y2 S o c0 hN hf; cases hf
  | succ n ih => intro y0 y1 y2 S o c0 hN hf; exact ke_X7_checkSign_62s hself53 ih hN c0 hf
theorem ke_X7_checkSign_53s {o : Int32 × ZS} {self53 : Nat → Int32 → ZS → Option (Int32 × ZS)} {x0 : Nat} {x3 : Int32} {S : ZS} (hself53 : ∀ (z0 : Nat) (z1 : Int32) (S : ZS) (o : Int32 × ZS), WS z0 → NQ S → self53 z0 z1 S = some o → NQ o.2 ∧ KE S o.2) (hN : NQ S) (w_x0 : WS x0) (hf : f_X7_checkSign_53s self53 x0 x3 S = some o) : NQ o.2 ∧ KE S o.2 := by
  unfold f_X7_checkSign_53s at hf
  rcases m_ifE hf with ⟨-, hf⟩ | ⟨-, hf⟩
  ·
    obtain ⟨-, hf⟩ := m_chkE hf
    cases hf
    exact ⟨hN, ke_0⟩
  ·
    obtain ⟨n_9, k_9⟩ := ke_X7_checkSign_62 hself53 _ _ _ _ _ _ w_x0 hN hf
    exact ⟨n_9, ke_t ke_0 k_9⟩
theorem ke_X7_checkSign_53   (n : Nat) : ∀ (y0 : Nat) (y1 : Int32) (S : ZS) (o : Int32 × ZS), WS y0 → NQ S → f_X7_checkSign_53  n y0 y1 S = some o → NQ o.2 ∧ KE S o.2 := by
  induction n with
  | zero => intro y0 y1 S o c0 hN hf; cases hf
  | succ n ih => intro y0 y1 S o c0 hN hf; exact ke_X7_checkSign_53s ih hN c0 hf
theorem ke_X7_checkSign_0 {o : Int32 × ZS} {x0 : Nat} {x1 : Nat} {x2 : Int32} {S : ZS}  (hN : NQ S) (w_x0 : WS x0) (hf : f_X7_checkSign_0 x0 x1 x2 S = some o) : NQ o.2 ∧ KE S o.2 := by
  unfold f_X7_checkSign_0 at hf
  obtain ⟨q1, hf⟩ := m_chkE hf
  obtain ⟨b1, p_b1, hf⟩ := m_calE hf
  obtain ⟨q2, hf⟩ := m_chkE hf
  obtain ⟨o2, ho, hf⟩ := m_calE hf
  obtain ⟨n_o2, k_o2⟩ := ke_X0_copyFrom hN (nq_cl hN q1 (by decide) (Or.inl w_x0) p_b1) ho
  replace k_o2 := ke_t ke_0 k_o2
  clear ho
  obtain ⟨q3, hf⟩ := m_chkE hf
  obtain ⟨b3, p_b3, hf⟩ := m_calE hf
  obtain ⟨q4, hf⟩ := m_chkE hf
  obtain ⟨o4, ho, hf⟩ := m_calE hf
  obtain ⟨n_o4, k_o4⟩ := ke_X0_play n_o2 (nq_cl n_o2 q3 (by decide) (Or.inl w_x0) p_b3) ho
  replace k_o4 := ke_t k_o2 k_o4
  clear ho
  obtain ⟨q5, hf⟩ := m_chkE hf
  obtain ⟨b5, p_b5, hf⟩ := m_calE hf
  obtain ⟨q6, hf⟩ := m_chkE hf
  obtain ⟨b6, p_b6, hf⟩ := m_calE hf
  obtain ⟨q7, hf⟩ := m_chkE hf
  obtain ⟨b7, p_b7, hf⟩ := m_calE hf
  obtain ⟨q8, hf⟩ := m_chkE hf
  obtain ⟨q9, hf⟩ := m_chkE hf
  obtain ⟨o8, ho, hf⟩ := m_calE hf
  have r_o8 := ro_X0_kingOf ho
  have n_o8 : NQ o8.2 := by rw [r_o8]; exact n_o4
  have k_o8 : KE S o8.2 := by rw [r_o8]; exact k_o4
  clear ho
  obtain ⟨q10, hf⟩ := m_chkE hf
  obtain ⟨b9, p_b9, hf⟩ := m_calE hf
  obtain ⟨q11, hf⟩ := m_chkE hf
  obtain ⟨v10, -, hf⟩ := m_bndE hf
  obtain ⟨q12, hf⟩ := m_chkE hf
  obtain ⟨o11, ho, hf⟩ := m_calE hf
  have r_o11 := ro_X0_attacked ho
  have n_o11 : NQ o11.2 := by rw [r_o11]; exact n_o8
  have k_o11 : KE S o11.2 := by rw [r_o11]; exact k_o8
  clear ho
  rcases m_ifE hf with ⟨-, hf⟩ | ⟨-, hf⟩
  ·
    obtain ⟨-, hf⟩ := m_chkE hf
    cases hf
    exact ⟨n_o11, k_o11⟩
  ·
    obtain ⟨n_9, k_9⟩ := ke_X7_checkSign_53  _ _ _ _ _ w_x0 n_o11 hf
    exact ⟨n_9, ke_t k_o11 k_9⟩
theorem ke_X7_checkSign {o : Int32 × ZS} {x0 : Nat} {x1 : Nat} {x2 : Int32} {S : ZS}  (hN : NQ S) (w_x0 : WS x0) (hf : f_X7_checkSign x0 x1 x2 S = some o) : NQ o.2 ∧ KE S o.2 := by
  unfold f_X7_checkSign at hf
  obtain ⟨n_9, k_9⟩ := ke_X7_checkSign_0  hN w_x0 hf
  exact ⟨n_9, ke_t ke_0 k_9⟩
theorem ke_X7_isLegal_47 {o : Int32 × ZS} {S : ZS}  (hN : NQ S)  (hf : f_X7_isLegal_47 S = some o) : NQ o.2 ∧ KE S o.2 := by
  unfold f_X7_isLegal_47 at hf
  obtain ⟨-, hf⟩ := m_chkE hf
  cases hf
  exact ⟨hN, ke_0⟩
theorem ke_X7_isLegal_83 {o : Int32 × ZS} {t0 : Int32} {S : ZS}  (hN : NQ S)  (hf : f_X7_isLegal_83 t0 S = some o) : NQ o.2 ∧ KE S o.2 := by
  unfold f_X7_isLegal_83 at hf
  obtain ⟨-, hf⟩ := m_chkE hf
  cases hf
  exact ⟨hN, ke_0⟩
theorem ke_X7_isLegal_82 {o : Int32 × ZS} {S : ZS}  (hN : NQ S)  (hf : f_X7_isLegal_82 S = some o) : NQ o.2 ∧ KE S o.2 := by
  unfold f_X7_isLegal_82 at hf
  obtain ⟨n_9, k_9⟩ := ke_X7_isLegal_83  hN  hf
  exact ⟨n_9, ke_t ke_0 k_9⟩
theorem ke_X7_isLegal_66 {o : Int32 × ZS} {x0 : Nat} {x1 : Nat} {x2 : Int32} {t0 : Int32} {t1 : Int32} {S : ZS}  (hN : NQ S) (w_x0 : WS x0) (hf : f_X7_isLegal_66 x0 x1 x2 t0 t1 S = some o) : NQ o.2 ∧ KE S o.2 := by
  unfold f_X7_isLegal_66 at hf
  rcases m_ifE hf with ⟨-, hf⟩ | ⟨-, hf⟩
  ·
    obtain ⟨q1, hf⟩ := m_chkE hf
    obtain ⟨o1, ho, hf⟩ := m_calE hf
    obtain ⟨n_o1, k_o1⟩ := ke_X7_isSafe hN w_x0 ho
    replace k_o1 := ke_t ke_0 k_o1
    clear ho
    rcases m_ifE hf with ⟨-, hf⟩ | ⟨-, hf⟩
    ·
      obtain ⟨n_9, k_9⟩ := ke_X7_isLegal_82  n_o1  hf
      exact ⟨n_9, ke_t k_o1 k_9⟩
    ·
      obtain ⟨n_9, k_9⟩ := ke_X7_isLegal_83  n_o1  hf
      exact ⟨n_9, ke_t k_o1 k_9⟩
  ·
    obtain ⟨n_9, k_9⟩ := ke_X7_isLegal_82  hN  hf
    exact ⟨n_9, ke_t ke_0 k_9⟩
theorem ke_X7_isLegal_0 {o : Int32 × ZS} {x0 : Nat} {x1 : Nat} {x2 : Int32} {S : ZS}  (hN : NQ S) (w_x0 : WS x0) (hf : f_X7_isLegal_0 x0 x1 x2 S = some o) : NQ o.2 ∧ KE S o.2 := by
  unfold f_X7_isLegal_0 at hf
  obtain ⟨v1, -, hf⟩ := m_bndE hf
  obtain ⟨v2, -, hf⟩ := m_bndE hf
  obtain ⟨v3, -, hf⟩ := m_bndE hf
  obtain ⟨v4, -, hf⟩ := m_bndE hf
  rcases m_ifE hf with ⟨-, hf⟩ | ⟨-, hf⟩
  ·
    obtain ⟨n_9, k_9⟩ := ke_X7_isLegal_47  hN  hf
    exact ⟨n_9, ke_t ke_0 k_9⟩
  ·
    rcases m_ifE hf with ⟨-, hf⟩ | ⟨-, hf⟩
    ·
      obtain ⟨n_9, k_9⟩ := ke_X7_isLegal_47  hN  hf
      exact ⟨n_9, ke_t ke_0 k_9⟩
    ·
      rcases m_ifE hf with ⟨-, hf⟩ | ⟨-, hf⟩
      ·
        obtain ⟨n_9, k_9⟩ := ke_X7_isLegal_47  hN  hf
        exact ⟨n_9, ke_t ke_0 k_9⟩
      ·
        obtain ⟨q1, hf⟩ := m_chkE hf
        obtain ⟨o5, ho, hf⟩ := m_calE hf
        have r_o5 := ro_X0_reaches ho
        have n_o5 : NQ o5.2 := by rw [r_o5]; exact hN
        have k_o5 : KE S o5.2 := by rw [r_o5]; exact ke_0
        clear ho
        rcases m_ifE hf with ⟨-, hf⟩ | ⟨-, hf⟩
        ·
          obtain ⟨n_9, k_9⟩ := ke_X7_isLegal_47  n_o5  hf
          exact ⟨n_9, ke_t k_o5 k_9⟩
        ·
          obtain ⟨q2, hf⟩ := m_chkE hf
          obtain ⟨o6, ho, hf⟩ := m_calE hf
          have r_o6 := ro_X0_becomesAnother ho
          have n_o6 : NQ o6.2 := by rw [r_o6]; exact n_o5
          have k_o6 : KE S o6.2 := by rw [r_o6]; exact k_o5
          clear ho
          rcases m_ifE hf with ⟨-, hf⟩ | ⟨-, hf⟩
          ·
            obtain ⟨n_9, k_9⟩ := ke_X7_isLegal_66  n_o6 w_x0 hf
            exact ⟨n_9, ke_t k_o6 k_9⟩
          ·
            obtain ⟨n_9, k_9⟩ := ke_X7_isLegal_66  n_o6 w_x0 hf
            exact ⟨n_9, ke_t k_o6 k_9⟩
theorem ke_X7_isLegal {o : Int32 × ZS} {x0 : Nat} {x1 : Nat} {x2 : Int32} {S : ZS}  (hN : NQ S) (w_x0 : WS x0) (hf : f_X7_isLegal x0 x1 x2 S = some o) : NQ o.2 ∧ KE S o.2 := by
  unfold f_X7_isLegal at hf
  obtain ⟨n_9, k_9⟩ := ke_X7_isLegal_0  hN w_x0 hf
  exact ⟨n_9, ke_t ke_0 k_9⟩
theorem ke_X7_legalMove_110 {o : Int32 × ZS} {self11 : Nat → Nat → Int32 → Int32 → ZS → Option (Int32 × ZS)} {self21 : Nat → Nat → Int32 → Int32 → Int32 → ZS → Option (Int32 × ZS)} {x0 : Nat} {x1 : Nat} {x3 : Int32} {x4 : Int32} {x5 : Int32} {S : ZS} (hself11 : ∀ (z0 : Nat) (z1 : Nat) (z2 : Int32) (z3 : Int32) (S : ZS) (o : Int32 × ZS), WS z0 → NQ S → self11 z0 z1 z2 z3 S = some o → NQ o.2 ∧ KE S o.2) (hself21 : ∀ (z0 : Nat) (z1 : Nat) (z2 : Int32) (z3 : Int32) (z4 : Int32) (S : ZS) (o : Int32 × ZS), WS z0 → NQ S → self21 z0 z1 z2 z3 z4 S = some o → NQ o.2 ∧ KE S o.2) (hN : NQ S) (w_x0 : WS x0) (hf : f_X7_legalMove_110 self11 self21 x0 x1 x3 x4 x5 S = some o) : NQ o.2 ∧ KE S o.2 := by
  unfold f_X7_legalMove_110 at hf
  obtain ⟨v1, -, hf⟩ := m_bndE hf
  obtain ⟨n_9, k_9⟩ := hself21 _ _ _ _ _ _ _ w_x0 hN hf
  exact ⟨n_9, ke_t ke_0 k_9⟩
theorem ke_X7_legalMove_104 {o : Int32 × ZS} {t0 : Int32} {S : ZS}  (hN : NQ S)  (hf : f_X7_legalMove_104 t0 S = some o) : NQ o.2 ∧ KE S o.2 := by
  unfold f_X7_legalMove_104 at hf
  cases hf
  exact ⟨hN, ke_0⟩
theorem ke_X7_legalMove_75 {o : Int32 × ZS} {self11 : Nat → Nat → Int32 → Int32 → ZS → Option (Int32 × ZS)} {self21 : Nat → Nat → Int32 → Int32 → Int32 → ZS → Option (Int32 × ZS)} {x0 : Nat} {x1 : Nat} {x3 : Int32} {x4 : Int32} {x5 : Int32} {x6 : Int32} {t0 : Int32} {S : ZS} (hself11 : ∀ (z0 : Nat) (z1 : Nat) (z2 : Int32) (z3 : Int32) (S : ZS) (o : Int32 × ZS), WS z0 → NQ S → self11 z0 z1 z2 z3 S = some o → NQ o.2 ∧ KE S o.2) (hself21 : ∀ (z0 : Nat) (z1 : Nat) (z2 : Int32) (z3 : Int32) (z4 : Int32) (S : ZS) (o : Int32 × ZS), WS z0 → NQ S → self21 z0 z1 z2 z3 z4 S = some o → NQ o.2 ∧ KE S o.2) (hN : NQ S) (w_x0 : WS x0) (hf : f_X7_legalMove_75 self11 self21 x0 x1 x3 x4 x5 x6 t0 S = some o) : NQ o.2 ∧ KE S o.2 := by
  unfold f_X7_legalMove_75 at hf
  rcases m_ifE hf with ⟨-, hf⟩ | ⟨-, hf⟩
  ·
    obtain ⟨v1, -, hf⟩ := m_bndE hf
    obtain ⟨n_9, k_9⟩ := ke_X7_legalMove_110 hself11 hself21 hN w_x0 hf
    exact ⟨n_9, ke_t ke_0 k_9⟩
  ·
    rcases m_ifE hf with ⟨-, hf⟩ | ⟨-, hf⟩
    ·
      obtain ⟨n_9, k_9⟩ := ke_X7_legalMove_104  hN  hf
      exact ⟨n_9, ke_t ke_0 k_9⟩
    ·
      obtain ⟨v2, -, hf⟩ := m_bndE hf
      obtain ⟨v3, -, hf⟩ := m_bndE hf
      obtain ⟨v4, -, hf⟩ := m_bndE hf
      obtain ⟨n_9, k_9⟩ := ke_X7_legalMove_104  hN  hf
      exact ⟨n_9, ke_t ke_0 k_9⟩
theorem ke_X7_legalMove_21s {o : Int32 × ZS} {self11 : Nat → Nat → Int32 → Int32 → ZS → Option (Int32 × ZS)} {self21 : Nat → Nat → Int32 → Int32 → Int32 → ZS → Option (Int32 × ZS)} {x0 : Nat} {x1 : Nat} {x3 : Int32} {x4 : Int32} {x5 : Int32} {S : ZS} (hself11 : ∀ (z0 : Nat) (z1 : Nat) (z2 : Int32) (z3 : Int32) (S : ZS) (o : Int32 × ZS), WS z0 → NQ S → self11 z0 z1 z2 z3 S = some o → NQ o.2 ∧ KE S o.2) (hself21 : ∀ (z0 : Nat) (z1 : Nat) (z2 : Int32) (z3 : Int32) (z4 : Int32) (S : ZS) (o : Int32 × ZS), WS z0 → NQ S → self21 z0 z1 z2 z3 z4 S = some o → NQ o.2 ∧ KE S o.2) (hN : NQ S) (w_x0 : WS x0) (hf : f_X7_legalMove_21s self11 self21 x0 x1 x3 x4 x5 S = some o) : NQ o.2 ∧ KE S o.2 := by
  unfold f_X7_legalMove_21s at hf
  rcases m_ifE hf with ⟨-, hf⟩ | ⟨-, hf⟩
  ·
    obtain ⟨v1, -, hf⟩ := m_bndE hf
    obtain ⟨n_9, k_9⟩ := hself11 _ _ _ _ _ _ w_x0 hN hf
    exact ⟨n_9, ke_t ke_0 k_9⟩
  ·
    obtain ⟨v2, -, hf⟩ := m_bndE hf
    obtain ⟨v3, -, hf⟩ := m_bndE hf
    obtain ⟨q1, hf⟩ := m_chkE hf
    obtain ⟨o4, ho, hf⟩ := m_calE hf
    have r_o4 := ro_X0_reaches ho
    have n_o4 : NQ o4.2 := by rw [r_o4]; exact hN
    have k_o4 : KE S o4.2 := by rw [r_o4]; exact ke_0
    clear ho
    rcases m_ifE hf with ⟨-, hf⟩ | ⟨-, hf⟩
    ·
      obtain ⟨n_9, k_9⟩ := ke_X7_legalMove_110 hself11 hself21 n_o4 w_x0 hf
      exact ⟨n_9, ke_t k_o4 k_9⟩
    ·
      obtain ⟨q2, hf⟩ := m_chkE hf
      obtain ⟨o5, ho, hf⟩ := m_calE hf
      obtain ⟨n_o5, k_o5⟩ := ke_X7_isSafe n_o4 w_x0 ho
      replace k_o5 := ke_t k_o4 k_o5
      clear ho
      rcases m_ifE hf with ⟨-, hf⟩ | ⟨-, hf⟩
      ·
        obtain ⟨n_9, k_9⟩ := ke_X7_legalMove_110 hself11 hself21 n_o5 w_x0 hf
        exact ⟨n_9, ke_t k_o5 k_9⟩
      ·
        obtain ⟨q3, hf⟩ := m_chkE hf
        obtain ⟨o6, ho, hf⟩ := m_calE hf
        have r_o6 := ro_X0_becomesAnother ho
        have n_o6 : NQ o6.2 := by rw [r_o6]; exact n_o5
        have k_o6 : KE S o6.2 := by rw [r_o6]; exact k_o5
        clear ho
        rcases m_ifE hf with ⟨-, hf⟩ | ⟨-, hf⟩
        ·
          obtain ⟨n_9, k_9⟩ := ke_X7_legalMove_75 hself11 hself21 n_o6 w_x0 hf
          exact ⟨n_9, ke_t k_o6 k_9⟩
        ·
          obtain ⟨n_9, k_9⟩ := ke_X7_legalMove_75 hself11 hself21 n_o6 w_x0 hf
          exact ⟨n_9, ke_t k_o6 k_9⟩
theorem ke_X7_legalMove_21 {self11 : Nat → Nat → Int32 → Int32 → ZS → Option (Int32 × ZS)} (hself11 : ∀ (z0 : Nat) (z1 : Nat) (z2 : Int32) (z3 : Int32) (S : ZS) (o : Int32 × ZS), WS z0 → NQ S → self11 z0 z1 z2 z3 S = some o → NQ o.2 ∧ KE S o.2) (n : Nat) : ∀ (y0 : Nat) (y1 : Nat) (y2 : Int32) (y3 : Int32) (y4 : Int32) (S : ZS) (o : Int32 × ZS), WS y0 → NQ S → f_X7_legalMove_21 self11 n y0 y1 y2 y3 y4 S = some o → NQ o.2 ∧ KE S o.2 := by
  induction n with
  | zero => intro y0 y1 y2 y3 y4 S o c0 hN hf; cases hf
  | succ n ih => intro y0 y1 y2 y3 y4 S o c0 hN hf; exact ke_X7_legalMove_21s hself11 ih hN c0 hf
theorem ke_X7_legalMove_11s {o : Int32 × ZS} {self11 : Nat → Nat → Int32 → Int32 → ZS → Option (Int32 × ZS)} {x0 : Nat} {x1 : Nat} {x3 : Int32} {x4 : Int32} {S : ZS} (hself11 : ∀ (z0 : Nat) (z1 : Nat) (z2 : Int32) (z3 : Int32) (S : ZS) (o : Int32 × ZS), WS z0 → NQ S → self11 z0 z1 z2 z3 S = some o → NQ o.2 ∧ KE S o.2) (hN : NQ S) (w_x0 : WS x0) (hf : f_X7_legalMove_11s self11 x0 x1 x3 x4 S = some o) : NQ o.2 ∧ KE S o.2 := by
  unfold f_X7_legalMove_11s at hf
  rcases m_ifE hf with ⟨-, hf⟩ | ⟨-, hf⟩
  ·
    cases hf
    exact ⟨hN, ke_0⟩
  ·
    obtain ⟨n_9, k_9⟩ := ke_X7_legalMove_21 hself11 _ _ _ _ _ _ _ _ w_x0 hN hf
    exact ⟨n_9, ke_t ke_0 k_9⟩
theorem ke_X7_legalMove_11   (n : Nat) : ∀ (y0 : Nat) (y1 : Nat) (y2 : Int32) (y3 : Int32) (S : ZS) (o : Int32 × ZS), WS y0 → NQ S → f_X7_legalMove_11  n y0 y1 y2 y3 S = some o → NQ o.2 ∧ KE S o.2 := by
  induction n with
  | zero => intro y0 y1 y2 y3 S o c0 hN hf; cases hf
  | succ n ih => intro y0 y1 y2 y3 S o c0 hN hf; exact ke_X7_legalMove_11s ih hN c0 hf
theorem ke_X7_legalMove_0 {o : Int32 × ZS} {x0 : Nat} {x1 : Nat} {x2 : Int32} {S : ZS}  (hN : NQ S) (w_x0 : WS x0) (hf : f_X7_legalMove_0 x0 x1 x2 S = some o) : NQ o.2 ∧ KE S o.2 := by
  unfold f_X7_legalMove_0 at hf
  rcases m_ifE hf with ⟨-, hf⟩ | ⟨-, hf⟩
  ·
    obtain ⟨n_9, k_9⟩ := ke_X7_legalMove_11  _ _ _ _ _ _ _ w_x0 hN hf
    exact ⟨n_9, ke_t ke_0 k_9⟩
  ·
    cases hf
    exact ⟨hN, ke_0⟩
theorem ke_X7_legalMove {o : Int32 × ZS} {x0 : Nat} {x1 : Nat} {x2 : Int32} {S : ZS}  (hN : NQ S) (w_x0 : WS x0) (hf : f_X7_legalMove x0 x1 x2 S = some o) : NQ o.2 ∧ KE S o.2 := by
  unfold f_X7_legalMove at hf
  obtain ⟨n_9, k_9⟩ := ke_X7_legalMove_0  hN w_x0 hf
  exact ⟨n_9, ke_t ke_0 k_9⟩
theorem ke_X11_out_0 {o : Int32 × ZS} {x0 : Nat} {x1 : Int32} {S : ZS}  (hN : NQ S)  (hf : f_X11_out_0 x0 x1 S = some o) : NQ o.2 ∧ KE S o.2 := by
  unfold f_X11_out_0 at hf
  obtain ⟨q1, hf⟩ := m_chkE hf
  obtain ⟨b1, p_b1, hf⟩ := m_calE hf
  obtain ⟨q2, hf⟩ := m_chkE hf
  obtain ⟨o2, ho, hf⟩ := m_calE hf
  have r_o2 := ro_X6_at ho
  have n_o2 : NQ o2.2 := by rw [r_o2]; exact hN
  have k_o2 : KE S o2.2 := by rw [r_o2]; exact ke_0
  clear ho
  cases hf
  exact ⟨n_o2, k_o2⟩
theorem ke_X11_out {o : Int32 × ZS} {x0 : Nat} {x1 : Int32} {S : ZS}  (hN : NQ S)  (hf : f_X11_out x0 x1 S = some o) : NQ o.2 ∧ KE S o.2 := by
  unfold f_X11_out at hf
  obtain ⟨n_9, k_9⟩ := ke_X11_out_0  hN  hf
  exact ⟨n_9, ke_t ke_0 k_9⟩
theorem ke_X11_nodes_0 {o : Int32 × ZS} {x0 : Nat} {S : ZS}  (hN : NQ S)  (hf : f_X11_nodes_0 x0 S = some o) : NQ o.2 ∧ KE S o.2 := by
  unfold f_X11_nodes_0 at hf
  obtain ⟨q1, hf⟩ := m_chkE hf
  obtain ⟨b1, p_b1, hf⟩ := m_calE hf
  obtain ⟨q2, hf⟩ := m_chkE hf
  cases hf
  exact ⟨hN, ke_0⟩
theorem ke_X11_nodes {o : Int32 × ZS} {x0 : Nat} {S : ZS}  (hN : NQ S)  (hf : f_X11_nodes x0 S = some o) : NQ o.2 ∧ KE S o.2 := by
  unfold f_X11_nodes at hf
  obtain ⟨n_9, k_9⟩ := ke_X11_nodes_0  hN  hf
  exact ⟨n_9, ke_t ke_0 k_9⟩
theorem ke_X11_here_0 {o : Int32 × ZS} {x0 : Nat} {S : ZS}  (hN : NQ S)  (hf : f_X11_here_0 x0 S = some o) : NQ o.2 ∧ KE S o.2 := by
  unfold f_X11_here_0 at hf
  obtain ⟨q1, hf⟩ := m_chkE hf
  cases hf
  exact ⟨hN, ke_0⟩
theorem ke_X11_here {o : Int32 × ZS} {x0 : Nat} {S : ZS}  (hN : NQ S)  (hf : f_X11_here x0 S = some o) : NQ o.2 ∧ KE S o.2 := by
  unfold f_X11_here at hf
  obtain ⟨n_9, k_9⟩ := ke_X11_here_0  hN  hf
  exact ⟨n_9, ke_t ke_0 k_9⟩
theorem ke_X11_move_0 {o : Int32 × ZS} {x0 : Nat} {x1 : Int32} {S : ZS}  (hN : NQ S) (u_x0 : x0 = 1) (hf : f_X11_move_0 x0 x1 S = some o) : NQ o.2 ∧ KE S o.2 := by
  unfold f_X11_move_0 at hf
  obtain ⟨q1, hf⟩ := m_chkE hf
  obtain ⟨b1, p_b1, hf⟩ := m_calE hf
  obtain ⟨q2, hf⟩ := m_chkE hf
  obtain ⟨b2, p_b2, hf⟩ := m_calE hf
  obtain ⟨q3, hf⟩ := m_chkE hf
  obtain ⟨o3, ho, hf⟩ := m_calE hf
  obtain ⟨n_o3, k_o3⟩ := ke_X7_legalMove hN (nq_cl hN q2 (by decide) (Or.inr u_x0) p_b1) ho
  replace k_o3 := ke_t ke_0 k_o3
  clear ho
  cases hf
  exact ⟨n_o3, k_o3⟩
theorem ke_X11_move {o : Int32 × ZS} {x0 : Nat} {x1 : Int32} {S : ZS}  (hN : NQ S) (u_x0 : x0 = 1) (hf : f_X11_move x0 x1 S = some o) : NQ o.2 ∧ KE S o.2 := by
  unfold f_X11_move at hf
  obtain ⟨n_9, k_9⟩ := ke_X11_move_0  hN u_x0 hf
  exact ⟨n_9, ke_t ke_0 k_9⟩
theorem ke_X11_result_0 {o : Int32 × ZS} {x0 : Nat} {S : ZS}  (hN : NQ S)  (hf : f_X11_result_0 x0 S = some o) : NQ o.2 ∧ KE S o.2 := by
  unfold f_X11_result_0 at hf
  obtain ⟨q1, hf⟩ := m_chkE hf
  obtain ⟨b1, p_b1, hf⟩ := m_calE hf
  obtain ⟨q2, hf⟩ := m_chkE hf
  cases hf
  exact ⟨hN, ke_0⟩
theorem ke_X11_result {o : Int32 × ZS} {x0 : Nat} {S : ZS}  (hN : NQ S)  (hf : f_X11_result x0 S = some o) : NQ o.2 ∧ KE S o.2 := by
  unfold f_X11_result at hf
  obtain ⟨n_9, k_9⟩ := ke_X11_result_0  hN  hf
  exact ⟨n_9, ke_t ke_0 k_9⟩
theorem ke_X11_tags_0 {o : Int32 × ZS} {x0 : Nat} {S : ZS}  (hN : NQ S)  (hf : f_X11_tags_0 x0 S = some o) : NQ o.2 ∧ KE S o.2 := by
  unfold f_X11_tags_0 at hf
  obtain ⟨q1, hf⟩ := m_chkE hf
  obtain ⟨b1, p_b1, hf⟩ := m_calE hf
  obtain ⟨q2, hf⟩ := m_chkE hf
  cases hf
  exact ⟨hN, ke_0⟩
theorem ke_X11_tags {o : Int32 × ZS} {x0 : Nat} {S : ZS}  (hN : NQ S)  (hf : f_X11_tags x0 S = some o) : NQ o.2 ∧ KE S o.2 := by
  unfold f_X11_tags at hf
  obtain ⟨n_9, k_9⟩ := ke_X11_tags_0  hN  hf
  exact ⟨n_9, ke_t ke_0 k_9⟩
theorem ke_X6_putAll_2s {o : Int32 × ZS} {self2 : Nat → Nat → Int32 → ZS → Option (Int32 × ZS)} {x0 : Nat} {x1 : Nat} {x2 : Int32} {S : ZS} (hself2 : ∀ (z0 : Nat) (z1 : Nat) (z2 : Int32) (S : ZS) (o : Int32 × ZS), WS z0 → NQ S → self2 z0 z1 z2 S = some o → NQ o.2 ∧ KE S o.2) (hN : NQ S) (w_x0 : WS x0) (hf : d_X6_putAll_2s self2 x0 x1 x2 S = some o) : NQ o.2 ∧ KE S o.2 := by
  unfold d_X6_putAll_2s at hf
  obtain ⟨q1, hf⟩ := m_chkE hf
  rcases m_ifE hf with ⟨-, hf⟩ | ⟨-, hf⟩
  ·
    cases hf
    exact ⟨hN, ke_0⟩
  ·
    obtain ⟨q2, hf⟩ := m_chkE hf
    obtain ⟨o1, ho, hf⟩ := m_calE hf
    have r_o1 := ro_X6_at ho
    have n_o1 : NQ o1.2 := by rw [r_o1]; exact hN
    have k_o1 : KE S o1.2 := by rw [r_o1]; exact ke_0
    clear ho
    obtain ⟨-, hf⟩ := m_chkE hf
    obtain ⟨q3, hf⟩ := m_chkE hf
    obtain ⟨⟨r3, S4⟩, ho, hf⟩ := m_cal2E hf
    obtain ⟨n_S4, k_S4⟩ := ke_X6_put n_o1 w_x0 ho
    replace k_S4 := ke_t k_o1 k_S4
    clear ho
    obtain ⟨v7, -, hf⟩ := m_bndE hf
    obtain ⟨n_9, k_9⟩ := hself2 _ _ _ _ _ w_x0 n_S4 hf
    exact ⟨n_9, ke_t k_S4 k_9⟩
theorem ke_X6_putAll_2   (n : Nat) : ∀ (y0 : Nat) (y1 : Nat) (y2 : Int32) (S : ZS) (o : Int32 × ZS), WS y0 → NQ S → d_X6_putAll_2  n y0 y1 y2 S = some o → NQ o.2 ∧ KE S o.2 := by
  induction n with
  | zero => intro y0 y1 y2 S o c0 hN hf; cases hf
  | succ n ih => intro y0 y1 y2 S o c0 hN hf; exact ke_X6_putAll_2s ih hN c0 hf
theorem ke_X6_putAll_0 {o : Int32 × ZS} {x0 : Nat} {x1 : Nat} {S : ZS}  (hN : NQ S) (w_x0 : WS x0) (hf : d_X6_putAll_0 x0 x1 S = some o) : NQ o.2 ∧ KE S o.2 := by
  unfold d_X6_putAll_0 at hf
  obtain ⟨n_9, k_9⟩ := ke_X6_putAll_2  _ _ _ _ _ _ w_x0 hN hf
  exact ⟨n_9, ke_t ke_0 k_9⟩
theorem ke_X6_putAll {o : Int32 × ZS} {x0 : Nat} {x1 : Nat} {S : ZS}  (hN : NQ S) (w_x0 : WS x0) (hf : d_X6_putAll x0 x1 S = some o) : NQ o.2 ∧ KE S o.2 := by
  unfold d_X6_putAll at hf
  obtain ⟨n_9, k_9⟩ := ke_X6_putAll_0  hN w_x0 hf
  exact ⟨n_9, ke_t ke_0 k_9⟩
theorem ke_X8_copyWhole_113 {o : Int32 × ZS} {S : ZS}  (hN : NQ S)  (hf : d_X8_copyWhole_113 S = some o) : NQ o.2 ∧ KE S o.2 := by
  unfold d_X8_copyWhole_113 at hf
  cases hf
  exact ⟨hN, ke_0⟩
theorem ke_X8_copyWhole_87 {o : Int32 × ZS} {x0 : Nat} {t0 : Int32} {t1 : Nat} {S : ZS}  (hN : NQ S) (w_x0 : WS x0) (w_t1 : WS t1) (hf : d_X8_copyWhole_87 x0 t0 t1 S = some o) : NQ o.2 ∧ KE S o.2 := by
  unfold d_X8_copyWhole_87 at hf
  obtain ⟨q1, hf⟩ := m_chkE hf
  obtain ⟨-, hf⟩ := m_chkE hf
  obtain ⟨S1, e2, hf⟩ := m_bndE hf
  obtain ⟨n_S1, k_S1⟩ := nk_I hN w_t1 e2
  replace k_S1 := ke_t ke_0 k_S1
  obtain ⟨q3, hf⟩ := m_chkE hf
  rcases m_ifE hf with ⟨-, hf⟩ | ⟨-, hf⟩
  ·
    obtain ⟨n_9, k_9⟩ := ke_X8_copyWhole_113  n_S1  hf
    exact ⟨n_9, ke_t k_S1 k_9⟩
  ·
    obtain ⟨q4, hf⟩ := m_chkE hf
    obtain ⟨b2, p_b2, hf⟩ := m_calE hf
    obtain ⟨q5, hf⟩ := m_chkE hf
    obtain ⟨b3, p_b3, hf⟩ := m_calE hf
    obtain ⟨q6, hf⟩ := m_chkE hf
    obtain ⟨o4, ho, hf⟩ := m_calE hf
    have r_o4 := ro_X6_size ho
    have n_o4 : NQ o4.2 := by rw [r_o4]; exact n_S1
    have k_o4 : KE S o4.2 := by rw [r_o4]; exact k_S1
    clear ho
    obtain ⟨-, hf⟩ := m_chkE hf
    obtain ⟨v5, -, hf⟩ := m_bndE hf
    obtain ⟨q7, hf⟩ := m_chkE hf
    obtain ⟨o6, ho, hf⟩ := m_calE hf
    obtain ⟨n_o6, k_o6⟩ := ke_X6_keep n_o4 (nq_cl n_S1 q5 (by decide) (Or.inl w_x0) p_b2) ho
    replace k_o6 := ke_t k_o4 k_o6
    clear ho
    obtain ⟨-, hf⟩ := m_chkE hf
    obtain ⟨n_9, k_9⟩ := ke_X8_copyWhole_113  n_o6  hf
    exact ⟨n_9, ke_t k_o6 k_9⟩
theorem ke_X8_copyWhole_81 {o : Int32 × ZS} {x0 : Nat} {x4 : Int32} {t0 : Nat} {S : ZS}  (hN : NQ S) (w_x0 : WS x0) (w_t0 : WS t0) (hf : d_X8_copyWhole_81 x0 x4 t0 S = some o) : NQ o.2 ∧ KE S o.2 := by
  unfold d_X8_copyWhole_81 at hf
  obtain ⟨n_9, k_9⟩ := ke_X8_copyWhole_87  hN w_x0 w_t0 hf
  exact ⟨n_9, ke_t ke_0 k_9⟩
theorem ke_X8_copyWhole_48 {o : Int32 × ZS} {x0 : Nat} {S : ZS}  (hN : NQ S) (w_x0 : WS x0) (hf : d_X8_copyWhole_48 x0 S = some o) : NQ o.2 ∧ KE S o.2 := by
  unfold d_X8_copyWhole_48 at hf
  obtain ⟨q1, hf⟩ := m_chkE hf
  obtain ⟨b1, p_b1, hf⟩ := m_calE hf
  obtain ⟨q2, hf⟩ := m_chkE hf
  obtain ⟨b2, p_b2, hf⟩ := m_calE hf
  obtain ⟨q3, hf⟩ := m_chkE hf
  obtain ⟨o3, ho, hf⟩ := m_calE hf
  have r_o3 := ro_X6_size ho
  have n_o3 : NQ o3.2 := by rw [r_o3]; exact hN
  have k_o3 : KE S o3.2 := by rw [r_o3]; exact ke_0
  clear ho
  obtain ⟨-, hf⟩ := m_chkE hf
  obtain ⟨v4, -, hf⟩ := m_bndE hf
  obtain ⟨q4, hf⟩ := m_chkE hf
  obtain ⟨o5, ho, hf⟩ := m_calE hf
  have r_o5 := ro_X6_at ho
  have n_o5 : NQ o5.2 := by rw [r_o5]; exact n_o3
  have k_o5 : KE S o5.2 := by rw [r_o5]; exact k_o3
  clear ho
  obtain ⟨-, hf⟩ := m_chkE hf
  rcases m_ifE hf with ⟨-, hf⟩ | ⟨-, hf⟩
  ·
    obtain ⟨n_9, k_9⟩ := ke_X8_copyWhole_81  n_o5 w_x0 w_x0 hf
    exact ⟨n_9, ke_t k_o5 k_9⟩
  ·
    rcases m_ifE hf with ⟨-, hf⟩ | ⟨-, hf⟩
    ·
      obtain ⟨n_9, k_9⟩ := ke_X8_copyWhole_81  n_o5 w_x0 w_x0 hf
      exact ⟨n_9, ke_t k_o5 k_9⟩
    ·
      obtain ⟨n_9, k_9⟩ := ke_X8_copyWhole_87  n_o5 w_x0 w_x0 hf
      exact ⟨n_9, ke_t k_o5 k_9⟩
theorem ke_X8_copyWhole_11s {o : Int32 × ZS} {self11 : Nat → Nat → Int32 → Int32 → ZS → Option (Int32 × ZS)} {x0 : Nat} {x1 : Nat} {x3 : Int32} {x4 : Int32} {S : ZS} (hself11 : ∀ (z0 : Nat) (z1 : Nat) (z2 : Int32) (z3 : Int32) (S : ZS) (o : Int32 × ZS), WS z0 → NQ S → self11 z0 z1 z2 z3 S = some o → NQ o.2 ∧ KE S o.2) (hN : NQ S) (w_x0 : WS x0) (hf : d_X8_copyWhole_11s self11 x0 x1 x3 x4 S = some o) : NQ o.2 ∧ KE S o.2 := by
  unfold d_X8_copyWhole_11s at hf
  rcases m_ifE hf with ⟨-, hf⟩ | ⟨-, hf⟩
  ·
    obtain ⟨n_9, k_9⟩ := ke_X8_copyWhole_48  hN w_x0 hf
    exact ⟨n_9, ke_t ke_0 k_9⟩
  ·
    obtain ⟨q1, hf⟩ := m_chkE hf
    obtain ⟨b1, p_b1, hf⟩ := m_calE hf
    obtain ⟨q2, hf⟩ := m_chkE hf
    obtain ⟨o2, ho, hf⟩ := m_calE hf
    have r_o2 := ro_X6_size ho
    have n_o2 : NQ o2.2 := by rw [r_o2]; exact hN
    have k_o2 : KE S o2.2 := by rw [r_o2]; exact ke_0
    clear ho
    obtain ⟨-, hf⟩ := m_chkE hf
    rcases m_ifE hf with ⟨-, hf⟩ | ⟨-, hf⟩
    ·
      obtain ⟨n_9, k_9⟩ := ke_X8_copyWhole_48  n_o2 w_x0 hf
      exact ⟨n_9, ke_t k_o2 k_9⟩
    ·
      obtain ⟨q3, hf⟩ := m_chkE hf
      obtain ⟨b3, p_b3, hf⟩ := m_calE hf
      obtain ⟨q4, hf⟩ := m_chkE hf
      obtain ⟨o4, ho, hf⟩ := m_calE hf
      have r_o4 := ro_X6_at ho
      have n_o4 : NQ o4.2 := by rw [r_o4]; exact n_o2
      have k_o4 : KE S o4.2 := by rw [r_o4]; exact k_o2
      clear ho
      obtain ⟨-, hf⟩ := m_chkE hf
      obtain ⟨q5, hf⟩ := m_chkE hf
      obtain ⟨⟨r6, S7⟩, ho, hf⟩ := m_cal2E hf
      obtain ⟨n_S7, k_S7⟩ := ke_X6_put n_o4 (nq_cl n_o2 q3 (by decide) (Or.inl w_x0) p_b3) ho
      replace k_S7 := ke_t k_o4 k_S7
      clear ho
      obtain ⟨v10, -, hf⟩ := m_bndE hf
      obtain ⟨n_9, k_9⟩ := hself11 _ _ _ _ _ _ w_x0 n_S7 hf
      exact ⟨n_9, ke_t k_S7 k_9⟩
theorem ke_X8_copyWhole_11   (n : Nat) : ∀ (y0 : Nat) (y1 : Nat) (y2 : Int32) (y3 : Int32) (S : ZS) (o : Int32 × ZS), WS y0 → NQ S → d_X8_copyWhole_11  n y0 y1 y2 y3 S = some o → NQ o.2 ∧ KE S o.2 := by
  induction n with
  | zero => intro y0 y1 y2 y3 S o c0 hN hf; cases hf
  | succ n ih => intro y0 y1 y2 y3 S o c0 hN hf; exact ke_X8_copyWhole_11s ih hN c0 hf
theorem ke_X8_copyWhole_0 {o : Int32 × ZS} {x0 : Nat} {x1 : Nat} {x2 : Int32} {x3 : Int32} {S : ZS}  (hN : NQ S) (w_x0 : WS x0) (hf : d_X8_copyWhole_0 x0 x1 x2 x3 S = some o) : NQ o.2 ∧ KE S o.2 := by
  unfold d_X8_copyWhole_0 at hf
  obtain ⟨q1, hf⟩ := m_chkE hf
  obtain ⟨b1, p_b1, hf⟩ := m_calE hf
  obtain ⟨q2, hf⟩ := m_chkE hf
  obtain ⟨o2, ho, hf⟩ := m_calE hf
  obtain ⟨n_o2, k_o2⟩ := ke_X6_keep hN (nq_cl hN q1 (by decide) (Or.inl w_x0) p_b1) ho
  replace k_o2 := ke_t ke_0 k_o2
  clear ho
  obtain ⟨-, hf⟩ := m_chkE hf
  obtain ⟨n_9, k_9⟩ := ke_X8_copyWhole_11  _ _ _ _ _ _ _ w_x0 n_o2 hf
  exact ⟨n_9, ke_t k_o2 k_9⟩
theorem ke_X8_copyWhole {o : Int32 × ZS} {x0 : Nat} {x1 : Nat} {x2 : Int32} {x3 : Int32} {S : ZS}  (hN : NQ S) (w_x0 : WS x0) (hf : d_X8_copyWhole x0 x1 x2 x3 S = some o) : NQ o.2 ∧ KE S o.2 := by
  unfold d_X8_copyWhole at hf
  obtain ⟨n_9, k_9⟩ := ke_X8_copyWhole_0  hN w_x0 hf
  exact ⟨n_9, ke_t ke_0 k_9⟩
theorem ke_X8_copyBare_73 {o : Int32 × ZS} {S : ZS}  (hN : NQ S)  (hf : d_X8_copyBare_73 S = some o) : NQ o.2 ∧ KE S o.2 := by
  unfold d_X8_copyBare_73 at hf
  cases hf
  exact ⟨hN, ke_0⟩
theorem ke_X8_copyBare_67 {o : Int32 × ZS} {self11 : Nat → Nat → Int32 → Int32 → ZS → Option (Int32 × ZS)} {x0 : Nat} {x1 : Nat} {x3 : Int32} {x4 : Int32} {S : ZS} (hself11 : ∀ (z0 : Nat) (z1 : Nat) (z2 : Int32) (z3 : Int32) (S : ZS) (o : Int32 × ZS), WS z0 → NQ S → self11 z0 z1 z2 z3 S = some o → NQ o.2 ∧ KE S o.2) (hN : NQ S) (w_x0 : WS x0) (hf : d_X8_copyBare_67 self11 x0 x1 x3 x4 S = some o) : NQ o.2 ∧ KE S o.2 := by
  unfold d_X8_copyBare_67 at hf
  obtain ⟨v1, -, hf⟩ := m_bndE hf
  obtain ⟨n_9, k_9⟩ := hself11 _ _ _ _ _ _ w_x0 hN hf
  exact ⟨n_9, ke_t ke_0 k_9⟩
theorem ke_X8_copyBare_11s {o : Int32 × ZS} {self11 : Nat → Nat → Int32 → Int32 → ZS → Option (Int32 × ZS)} {x0 : Nat} {x1 : Nat} {x3 : Int32} {x4 : Int32} {S : ZS} (hself11 : ∀ (z0 : Nat) (z1 : Nat) (z2 : Int32) (z3 : Int32) (S : ZS) (o : Int32 × ZS), WS z0 → NQ S → self11 z0 z1 z2 z3 S = some o → NQ o.2 ∧ KE S o.2) (hN : NQ S) (w_x0 : WS x0) (hf : d_X8_copyBare_11s self11 x0 x1 x3 x4 S = some o) : NQ o.2 ∧ KE S o.2 := by
  unfold d_X8_copyBare_11s at hf
  rcases m_ifE hf with ⟨-, hf⟩ | ⟨-, hf⟩
  ·
    obtain ⟨n_9, k_9⟩ := ke_X8_copyBare_73  hN  hf
    exact ⟨n_9, ke_t ke_0 k_9⟩
  ·
    obtain ⟨q1, hf⟩ := m_chkE hf
    obtain ⟨b1, p_b1, hf⟩ := m_calE hf
    obtain ⟨q2, hf⟩ := m_chkE hf
    obtain ⟨o2, ho, hf⟩ := m_calE hf
    have r_o2 := ro_X6_size ho
    have n_o2 : NQ o2.2 := by rw [r_o2]; exact hN
    have k_o2 : KE S o2.2 := by rw [r_o2]; exact ke_0
    clear ho
    obtain ⟨-, hf⟩ := m_chkE hf
    rcases m_ifE hf with ⟨-, hf⟩ | ⟨-, hf⟩
    ·
      obtain ⟨n_9, k_9⟩ := ke_X8_copyBare_73  n_o2  hf
      exact ⟨n_9, ke_t k_o2 k_9⟩
    ·
      obtain ⟨q3, hf⟩ := m_chkE hf
      obtain ⟨o3, ho, hf⟩ := m_calE hf
      have r_o3 := ro_X6_at ho
      have n_o3 : NQ o3.2 := by rw [r_o3]; exact n_o2
      have k_o3 : KE S o3.2 := by rw [r_o3]; exact k_o2
      clear ho
      obtain ⟨-, hf⟩ := m_chkE hf
      rcases m_ifE hf with ⟨-, hf⟩ | ⟨-, hf⟩
      ·
        obtain ⟨n_9, k_9⟩ := ke_X8_copyBare_67 hself11 n_o3 w_x0 hf
        exact ⟨n_9, ke_t k_o3 k_9⟩
      ·
        rcases m_ifE hf with ⟨-, hf⟩ | ⟨-, hf⟩
        ·
          obtain ⟨n_9, k_9⟩ := ke_X8_copyBare_67 hself11 n_o3 w_x0 hf
          exact ⟨n_9, ke_t k_o3 k_9⟩
        ·
          rcases m_ifE hf with ⟨-, hf⟩ | ⟨-, hf⟩
          ·
            obtain ⟨n_9, k_9⟩ := ke_X8_copyBare_67 hself11 n_o3 w_x0 hf
            exact ⟨n_9, ke_t k_o3 k_9⟩
          ·
            obtain ⟨q4, hf⟩ := m_chkE hf
            obtain ⟨b4, p_b4, hf⟩ := m_calE hf
            obtain ⟨q5, hf⟩ := m_chkE hf
            obtain ⟨⟨r6, S7⟩, ho, hf⟩ := m_cal2E hf
            obtain ⟨n_S7, k_S7⟩ := ke_X6_put n_o3 (nq_cl n_o3 q4 (by decide) (Or.inl w_x0) p_b4) ho
            replace k_S7 := ke_t k_o3 k_S7
            clear ho
            obtain ⟨n_9, k_9⟩ := ke_X8_copyBare_67 hself11 n_S7 w_x0 hf
            exact ⟨n_9, ke_t k_S7 k_9⟩
theorem ke_X8_copyBare_11   (n : Nat) : ∀ (y0 : Nat) (y1 : Nat) (y2 : Int32) (y3 : Int32) (S : ZS) (o : Int32 × ZS), WS y0 → NQ S → d_X8_copyBare_11  n y0 y1 y2 y3 S = some o → NQ o.2 ∧ KE S o.2 := by
  induction n with
  | zero => intro y0 y1 y2 y3 S o c0 hN hf; cases hf
  | succ n ih => intro y0 y1 y2 y3 S o c0 hN hf; exact ke_X8_copyBare_11s ih hN c0 hf
theorem ke_X8_copyBare_0 {o : Int32 × ZS} {x0 : Nat} {x1 : Nat} {x2 : Int32} {x3 : Int32} {S : ZS}  (hN : NQ S) (w_x0 : WS x0) (hf : d_X8_copyBare_0 x0 x1 x2 x3 S = some o) : NQ o.2 ∧ KE S o.2 := by
  unfold d_X8_copyBare_0 at hf
  obtain ⟨q1, hf⟩ := m_chkE hf
  obtain ⟨b1, p_b1, hf⟩ := m_calE hf
  obtain ⟨q2, hf⟩ := m_chkE hf
  obtain ⟨o2, ho, hf⟩ := m_calE hf
  obtain ⟨n_o2, k_o2⟩ := ke_X6_keep hN (nq_cl hN q1 (by decide) (Or.inl w_x0) p_b1) ho
  replace k_o2 := ke_t ke_0 k_o2
  clear ho
  obtain ⟨-, hf⟩ := m_chkE hf
  obtain ⟨n_9, k_9⟩ := ke_X8_copyBare_11  _ _ _ _ _ _ _ w_x0 n_o2 hf
  exact ⟨n_9, ke_t k_o2 k_9⟩
theorem ke_X8_copyBare {o : Int32 × ZS} {x0 : Nat} {x1 : Nat} {x2 : Int32} {x3 : Int32} {S : ZS}  (hN : NQ S) (w_x0 : WS x0) (hf : d_X8_copyBare x0 x1 x2 x3 S = some o) : NQ o.2 ∧ KE S o.2 := by
  unfold d_X8_copyBare at hf
  obtain ⟨n_9, k_9⟩ := ke_X8_copyBare_0  hN w_x0 hf
  exact ⟨n_9, ke_t ke_0 k_9⟩
theorem ke_X8_matched_144 {o : Int32 × ZS} {t0 : Int32} {S : ZS}  (hN : NQ S)  (hf : d_X8_matched_144 t0 S = some o) : NQ o.2 ∧ KE S o.2 := by
  unfold d_X8_matched_144 at hf
  cases hf
  exact ⟨hN, ke_0⟩
theorem ke_X8_matched_103 {o : Int32 × ZS} {x0 : Nat} {x1 : Nat} {x2 : Nat} {x3 : Int32} {x4 : Int32} {S : ZS}  (hN : NQ S) (w_x0 : WS x0) (hf : d_X8_matched_103 x0 x1 x2 x3 x4 S = some o) : NQ o.2 ∧ KE S o.2 := by
  unfold d_X8_matched_103 at hf
  obtain ⟨q1, hf⟩ := m_chkE hf
  obtain ⟨⟨r2, S3⟩, ho, hf⟩ := m_cal2E hf
  obtain ⟨n_S3, k_S3⟩ := ke_X8_copyBare hN w_x0 ho
  replace k_S3 := ke_t ke_0 k_S3
  clear ho
  obtain ⟨q2, hf⟩ := m_chkE hf
  obtain ⟨o6, ho, hf⟩ := m_calE hf
  obtain ⟨n_o6, k_o6⟩ := ke_X8_parse n_S3 w_x0 ho
  replace k_o6 := ke_t k_S3 k_o6
  clear ho
  obtain ⟨-, hf⟩ := m_chkE hf
  rcases m_ifE hf with ⟨-, hf⟩ | ⟨-, hf⟩
  ·
    cases hf
    exact ⟨n_o6, k_o6⟩
  ·
    obtain ⟨q3, hf⟩ := m_chkE hf
    obtain ⟨S7, e4, hf⟩ := m_bndE hf
    obtain ⟨n_S7, k_S7⟩ := nk_I n_o6 w_x0 e4
    replace k_S7 := ke_t k_o6 k_S7
    obtain ⟨q5, hf⟩ := m_chkE hf
    obtain ⟨o8, ho, hf⟩ := m_calE hf
    obtain ⟨n_o8, k_o8⟩ := ke_X8_gather n_S7 w_x0 ho
    replace k_o8 := ke_t k_S7 k_o8
    clear ho
    obtain ⟨-, hf⟩ := m_chkE hf
    obtain ⟨q6, hf⟩ := m_chkE hf
    rcases m_ifE hf with ⟨-, hf⟩ | ⟨-, hf⟩
    ·
      obtain ⟨n_9, k_9⟩ := ke_X8_matched_144  n_o8  hf
      exact ⟨n_9, ke_t k_o8 k_9⟩
    ·
      obtain ⟨n_9, k_9⟩ := ke_X8_matched_144  n_o8  hf
      exact ⟨n_9, ke_t k_o8 k_9⟩
theorem ke_X8_matched_102 {o : Int32 × ZS} {t0 : Int32} {S : ZS}  (hN : NQ S)  (hf : d_X8_matched_102 t0 S = some o) : NQ o.2 ∧ KE S o.2 := by
  unfold d_X8_matched_102 at hf
  cases hf
  exact ⟨hN, ke_0⟩
theorem ke_X8_matched_79 {o : Int32 × ZS} {self29 : Nat → Nat → Nat → Int32 → Int32 → Int32 → Int32 → Int32 → ZS → Option (Int32 × ZS)} {x0 : Nat} {x1 : Nat} {x2 : Nat} {x3 : Int32} {x4 : Int32} {x5 : Int32} {x6 : Int32} {x7 : Int32} {S : ZS} (hself29 : ∀ (z0 : Nat) (z1 : Nat) (z2 : Nat) (z3 : Int32) (z4 : Int32) (z5 : Int32) (z6 : Int32) (z7 : Int32) (S : ZS) (o : Int32 × ZS), WS z0 → NQ S → self29 z0 z1 z2 z3 z4 z5 z6 z7 S = some o → NQ o.2 ∧ KE S o.2) (hN : NQ S) (w_x0 : WS x0) (hf : d_X8_matched_79 self29 x0 x1 x2 x3 x4 x5 x6 x7 S = some o) : NQ o.2 ∧ KE S o.2 := by
  unfold d_X8_matched_79 at hf
  obtain ⟨v1, -, hf⟩ := m_bndE hf
  obtain ⟨n_9, k_9⟩ := hself29 _ _ _ _ _ _ _ _ _ _ w_x0 hN hf
  exact ⟨n_9, ke_t ke_0 k_9⟩
theorem ke_X8_matched_67 {o : Int32 × ZS} {self29 : Nat → Nat → Nat → Int32 → Int32 → Int32 → Int32 → Int32 → ZS → Option (Int32 × ZS)} {x0 : Nat} {x1 : Nat} {x2 : Nat} {x3 : Int32} {x4 : Int32} {x6 : Int32} {x7 : Int32} {S : ZS} (hself29 : ∀ (z0 : Nat) (z1 : Nat) (z2 : Nat) (z3 : Int32) (z4 : Int32) (z5 : Int32) (z6 : Int32) (z7 : Int32) (S : ZS) (o : Int32 × ZS), WS z0 → NQ S → self29 z0 z1 z2 z3 z4 z5 z6 z7 S = some o → NQ o.2 ∧ KE S o.2) (hN : NQ S) (w_x0 : WS x0) (hf : d_X8_matched_67 self29 x0 x1 x2 x3 x4 x6 x7 S = some o) : NQ o.2 ∧ KE S o.2 := by
  unfold d_X8_matched_67 at hf
  obtain ⟨q1, hf⟩ := m_chkE hf
  obtain ⟨b1, p_b1, hf⟩ := m_calE hf
  obtain ⟨q2, hf⟩ := m_chkE hf
  obtain ⟨q3, hf⟩ := m_chkE hf
  obtain ⟨v2, -, hf⟩ := m_bndE hf
  obtain ⟨v3, -, hf⟩ := m_bndE hf
  obtain ⟨n_9, k_9⟩ := ke_X8_matched_79 hself29 hN w_x0 hf
  exact ⟨n_9, ke_t ke_0 k_9⟩
theorem ke_X8_matched_29s {o : Int32 × ZS} {self29 : Nat → Nat → Nat → Int32 → Int32 → Int32 → Int32 → Int32 → ZS → Option (Int32 × ZS)} {x0 : Nat} {x1 : Nat} {x2 : Nat} {x3 : Int32} {x4 : Int32} {x5 : Int32} {x6 : Int32} {x7 : Int32} {S : ZS} (hself29 : ∀ (z0 : Nat) (z1 : Nat) (z2 : Nat) (z3 : Int32) (z4 : Int32) (z5 : Int32) (z6 : Int32) (z7 : Int32) (S : ZS) (o : Int32 × ZS), WS z0 → NQ S → self29 z0 z1 z2 z3 z4 z5 z6 z7 S = some o → NQ o.2 ∧ KE S o.2) (hN : NQ S) (w_x0 : WS x0) (hf : d_X8_matched_29s self29 x0 x1 x2 x3 x4 x5 x6 x7 S = some o) : NQ o.2 ∧ KE S o.2 := by
  unfold d_X8_matched_29s at hf
  obtain ⟨q1, hf⟩ := m_chkE hf
  rcases m_ifE hf with ⟨-, hf⟩ | ⟨-, hf⟩
  ·
    rcases m_ifE hf with ⟨-, hf⟩ | ⟨-, hf⟩
    ·
      obtain ⟨n_9, k_9⟩ := ke_X8_matched_103  hN w_x0 hf
      exact ⟨n_9, ke_t ke_0 k_9⟩
    ·
      rcases m_ifE hf with ⟨-, hf⟩ | ⟨-, hf⟩
      ·
        obtain ⟨n_9, k_9⟩ := ke_X8_matched_102  hN  hf
        exact ⟨n_9, ke_t ke_0 k_9⟩
      ·
        obtain ⟨n_9, k_9⟩ := ke_X8_matched_102  hN  hf
        exact ⟨n_9, ke_t ke_0 k_9⟩
  ·
    obtain ⟨q2, hf⟩ := m_chkE hf
    rcases m_ifE hf with ⟨-, hf⟩ | ⟨-, hf⟩
    ·
      obtain ⟨n_9, k_9⟩ := ke_X8_matched_67 hself29 hN w_x0 hf
      exact ⟨n_9, ke_t ke_0 k_9⟩
    ·
      obtain ⟨q3, hf⟩ := m_chkE hf
      obtain ⟨q4, hf⟩ := m_chkE hf
      obtain ⟨b1, p_b1, hf⟩ := m_calE hf
      obtain ⟨q5, hf⟩ := m_chkE hf
      obtain ⟨b2, p_b2, hf⟩ := m_calE hf
      obtain ⟨q6, hf⟩ := m_chkE hf
      obtain ⟨q7, hf⟩ := m_chkE hf
      obtain ⟨v3, -, hf⟩ := m_bndE hf
      obtain ⟨q8, hf⟩ := m_chkE hf
      obtain ⟨o4, ho, hf⟩ := m_calE hf
      obtain ⟨n_o4, k_o4⟩ := ke_X7_checkSign hN (nq_cl hN q5 (by decide) (Or.inl w_x0) p_b1) ho
      replace k_o4 := ke_t ke_0 k_o4
      clear ho
      obtain ⟨-, hf⟩ := m_chkE hf
      rcases m_ifE hf with ⟨-, hf⟩ | ⟨-, hf⟩
      ·
        obtain ⟨n_9, k_9⟩ := ke_X8_matched_67 hself29 n_o4 w_x0 hf
        exact ⟨n_9, ke_t k_o4 k_9⟩
      ·
        obtain ⟨n_9, k_9⟩ := ke_X8_matched_79 hself29 n_o4 w_x0 hf
        exact ⟨n_9, ke_t k_o4 k_9⟩
theorem ke_X8_matched_29   (n : Nat) : ∀ (y0 : Nat) (y1 : Nat) (y2 : Nat) (y3 : Int32) (y4 : Int32) (y5 : Int32) (y6 : Int32) (y7 : Int32) (S : ZS) (o : Int32 × ZS), WS y0 → NQ S → d_X8_matched_29  n y0 y1 y2 y3 y4 y5 y6 y7 S = some o → NQ o.2 ∧ KE S o.2 := by
  induction n with
  | zero => intro y0 y1 y2 y3 y4 y5 y6 y7 S o c0 hN hf; cases hf
  | succ n ih => intro y0 y1 y2 y3 y4 y5 y6 y7 S o c0 hN hf; exact ke_X8_matched_29s ih hN c0 hf
theorem ke_X8_matched_0 {o : Int32 × ZS} {x0 : Nat} {x1 : Nat} {x2 : Nat} {x3 : Int32} {x4 : Int32} {S : ZS}  (hN : NQ S) (w_x0 : WS x0) (hf : d_X8_matched_0 x0 x1 x2 x3 x4 S = some o) : NQ o.2 ∧ KE S o.2 := by
  unfold d_X8_matched_0 at hf
  obtain ⟨q1, hf⟩ := m_chkE hf
  obtain ⟨⟨r2, S3⟩, ho, hf⟩ := m_cal2E hf
  obtain ⟨n_S3, k_S3⟩ := ke_X8_copyWhole hN w_x0 ho
  replace k_S3 := ke_t ke_0 k_S3
  clear ho
  obtain ⟨q2, hf⟩ := m_chkE hf
  obtain ⟨o6, ho, hf⟩ := m_calE hf
  obtain ⟨n_o6, k_o6⟩ := ke_X8_parse n_S3 w_x0 ho
  replace k_o6 := ke_t k_S3 k_o6
  clear ho
  obtain ⟨-, hf⟩ := m_chkE hf
  rcases m_ifE hf with ⟨-, hf⟩ | ⟨-, hf⟩
  ·
    obtain ⟨n_9, k_9⟩ := ke_X8_matched_103  n_o6 w_x0 hf
    exact ⟨n_9, ke_t k_o6 k_9⟩
  ·
    obtain ⟨q3, hf⟩ := m_chkE hf
    obtain ⟨o7, ho, hf⟩ := m_calE hf
    obtain ⟨n_o7, k_o7⟩ := ke_X8_gather n_o6 w_x0 ho
    replace k_o7 := ke_t k_o6 k_o7
    clear ho
    obtain ⟨-, hf⟩ := m_chkE hf
    obtain ⟨n_9, k_9⟩ := ke_X8_matched_29  _ _ _ _ _ _ _ _ _ _ _ w_x0 n_o7 hf
    exact ⟨n_9, ke_t k_o7 k_9⟩
theorem ke_X8_matched {o : Int32 × ZS} {x0 : Nat} {x1 : Nat} {x2 : Nat} {x3 : Int32} {x4 : Int32} {S : ZS}  (hN : NQ S) (w_x0 : WS x0) (hf : d_X8_matched x0 x1 x2 x3 x4 S = some o) : NQ o.2 ∧ KE S o.2 := by
  unfold d_X8_matched at hf
  obtain ⟨n_9, k_9⟩ := ke_X8_matched_0  hN w_x0 hf
  exact ⟨n_9, ke_t ke_0 k_9⟩
theorem ke_X6_putText_2s {o : Int32 × ZS} {self2 : Nat → Nat → Int32 → ZS → Option (Int32 × ZS)} {x0 : Nat} {x1 : Nat} {x2 : Int32} {S : ZS} (hself2 : ∀ (z0 : Nat) (z1 : Nat) (z2 : Int32) (S : ZS) (o : Int32 × ZS), WS z0 → NQ S → self2 z0 z1 z2 S = some o → NQ o.2 ∧ KE S o.2) (hN : NQ S) (w_x0 : WS x0) (hf : d_X6_putText_2s self2 x0 x1 x2 S = some o) : NQ o.2 ∧ KE S o.2 := by
  unfold d_X6_putText_2s at hf
  obtain ⟨-, hf⟩ := m_chkE hf
  obtain ⟨o1, ho, hf⟩ := m_calE hf
  have r_o1 := ro_J0_length_8abf5 ho
  have n_o1 : NQ o1.2 := by rw [r_o1]; exact hN
  have k_o1 : KE S o1.2 := by rw [r_o1]; exact ke_0
  clear ho
  obtain ⟨-, hf⟩ := m_chkE hf
  rcases m_ifE hf with ⟨-, hf⟩ | ⟨-, hf⟩
  ·
    cases hf
    exact ⟨n_o1, k_o1⟩
  ·
    obtain ⟨-, hf⟩ := m_chkE hf
    obtain ⟨o2, ho, hf⟩ := m_calE hf
    have r_o2 := ro_J0_charAt_5068e ho
    have n_o2 : NQ o2.2 := by rw [r_o2]; exact n_o1
    have k_o2 : KE S o2.2 := by rw [r_o2]; exact k_o1
    clear ho
    obtain ⟨-, hf⟩ := m_chkE hf
    obtain ⟨q1, hf⟩ := m_chkE hf
    obtain ⟨⟨r4, S5⟩, ho, hf⟩ := m_cal2E hf
    obtain ⟨n_S5, k_S5⟩ := ke_X6_put n_o2 w_x0 ho
    replace k_S5 := ke_t k_o2 k_S5
    clear ho
    obtain ⟨v8, -, hf⟩ := m_bndE hf
    obtain ⟨n_9, k_9⟩ := hself2 _ _ _ _ _ w_x0 n_S5 hf
    exact ⟨n_9, ke_t k_S5 k_9⟩
theorem ke_X6_putText_2   (n : Nat) : ∀ (y0 : Nat) (y1 : Nat) (y2 : Int32) (S : ZS) (o : Int32 × ZS), WS y0 → NQ S → d_X6_putText_2  n y0 y1 y2 S = some o → NQ o.2 ∧ KE S o.2 := by
  induction n with
  | zero => intro y0 y1 y2 S o c0 hN hf; cases hf
  | succ n ih => intro y0 y1 y2 S o c0 hN hf; exact ke_X6_putText_2s ih hN c0 hf
theorem ke_X6_putText_0 {o : Int32 × ZS} {x0 : Nat} {x1 : Nat} {S : ZS}  (hN : NQ S) (w_x0 : WS x0) (hf : d_X6_putText_0 x0 x1 S = some o) : NQ o.2 ∧ KE S o.2 := by
  unfold d_X6_putText_0 at hf
  obtain ⟨n_9, k_9⟩ := ke_X6_putText_2  _ _ _ _ _ _ w_x0 hN hf
  exact ⟨n_9, ke_t ke_0 k_9⟩
theorem ke_X6_putText {o : Int32 × ZS} {x0 : Nat} {x1 : Nat} {S : ZS}  (hN : NQ S) (w_x0 : WS x0) (hf : d_X6_putText x0 x1 S = some o) : NQ o.2 ∧ KE S o.2 := by
  unfold d_X6_putText at hf
  obtain ⟨n_9, k_9⟩ := ke_X6_putText_0  hN w_x0 hf
  exact ⟨n_9, ke_t ke_0 k_9⟩
theorem ke_X3_putQuoted_34 {o : Int32 × ZS} {self2 : Nat → Nat → Int32 → ZS → Option (Int32 × ZS)} {x0 : Nat} {x1 : Nat} {x2 : Int32} {x3 : Int32} {S : ZS} (hself2 : ∀ (z0 : Nat) (z1 : Nat) (z2 : Int32) (S : ZS) (o : Int32 × ZS), WS z1 → NQ S → self2 z0 z1 z2 S = some o → NQ o.2 ∧ KE S o.2) (hN : NQ S) (w_x1 : WS x1) (hf : d_X3_putQuoted_34 self2 x0 x1 x2 x3 S = some o) : NQ o.2 ∧ KE S o.2 := by
  unfold d_X3_putQuoted_34 at hf
  obtain ⟨q1, hf⟩ := m_chkE hf
  obtain ⟨⟨r2, S3⟩, ho, hf⟩ := m_cal2E hf
  obtain ⟨n_S3, k_S3⟩ := ke_X6_put hN w_x1 ho
  replace k_S3 := ke_t ke_0 k_S3
  clear ho
  obtain ⟨v6, -, hf⟩ := m_bndE hf
  obtain ⟨n_9, k_9⟩ := hself2 _ _ _ _ _ w_x1 n_S3 hf
  exact ⟨n_9, ke_t k_S3 k_9⟩
theorem ke_X3_putQuoted_28 {o : Int32 × ZS} {self2 : Nat → Nat → Int32 → ZS → Option (Int32 × ZS)} {x0 : Nat} {x1 : Nat} {x2 : Int32} {x3 : Int32} {S : ZS} (hself2 : ∀ (z0 : Nat) (z1 : Nat) (z2 : Int32) (S : ZS) (o : Int32 × ZS), WS z1 → NQ S → self2 z0 z1 z2 S = some o → NQ o.2 ∧ KE S o.2) (hN : NQ S) (w_x1 : WS x1) (hf : d_X3_putQuoted_28 self2 x0 x1 x2 x3 S = some o) : NQ o.2 ∧ KE S o.2 := by
  unfold d_X3_putQuoted_28 at hf
  obtain ⟨q1, hf⟩ := m_chkE hf
  obtain ⟨⟨r2, S3⟩, ho, hf⟩ := m_cal2E hf
  obtain ⟨n_S3, k_S3⟩ := ke_X6_put hN w_x1 ho
  replace k_S3 := ke_t ke_0 k_S3
  clear ho
  obtain ⟨n_9, k_9⟩ := ke_X3_putQuoted_34 hself2 n_S3 w_x1 hf
  exact ⟨n_9, ke_t k_S3 k_9⟩
theorem ke_X3_putQuoted_2s {o : Int32 × ZS} {self2 : Nat → Nat → Int32 → ZS → Option (Int32 × ZS)} {x0 : Nat} {x1 : Nat} {x2 : Int32} {S : ZS} (hself2 : ∀ (z0 : Nat) (z1 : Nat) (z2 : Int32) (S : ZS) (o : Int32 × ZS), WS z1 → NQ S → self2 z0 z1 z2 S = some o → NQ o.2 ∧ KE S o.2) (hN : NQ S) (w_x1 : WS x1) (hf : d_X3_putQuoted_2s self2 x0 x1 x2 S = some o) : NQ o.2 ∧ KE S o.2 := by
  unfold d_X3_putQuoted_2s at hf
  obtain ⟨q1, hf⟩ := m_chkE hf
  obtain ⟨o1, ho, hf⟩ := m_calE hf
  have r_o1 := ro_X6_size ho
  have n_o1 : NQ o1.2 := by rw [r_o1]; exact hN
  have k_o1 : KE S o1.2 := by rw [r_o1]; exact ke_0
  clear ho
  obtain ⟨-, hf⟩ := m_chkE hf
  rcases m_ifE hf with ⟨-, hf⟩ | ⟨-, hf⟩
  ·
    cases hf
    exact ⟨n_o1, k_o1⟩
  ·
    obtain ⟨q2, hf⟩ := m_chkE hf
    obtain ⟨o2, ho, hf⟩ := m_calE hf
    have r_o2 := ro_X6_at ho
    have n_o2 : NQ o2.2 := by rw [r_o2]; exact n_o1
    have k_o2 : KE S o2.2 := by rw [r_o2]; exact k_o1
    clear ho
    obtain ⟨-, hf⟩ := m_chkE hf
    rcases m_ifE hf with ⟨-, hf⟩ | ⟨-, hf⟩
    ·
      obtain ⟨n_9, k_9⟩ := ke_X3_putQuoted_28 hself2 n_o2 w_x1 hf
      exact ⟨n_9, ke_t k_o2 k_9⟩
    ·
      rcases m_ifE hf with ⟨-, hf⟩ | ⟨-, hf⟩
      ·
        obtain ⟨n_9, k_9⟩ := ke_X3_putQuoted_28 hself2 n_o2 w_x1 hf
        exact ⟨n_9, ke_t k_o2 k_9⟩
      ·
        obtain ⟨n_9, k_9⟩ := ke_X3_putQuoted_34 hself2 n_o2 w_x1 hf
        exact ⟨n_9, ke_t k_o2 k_9⟩
theorem ke_X3_putQuoted_2   (n : Nat) : ∀ (y0 : Nat) (y1 : Nat) (y2 : Int32) (S : ZS) (o : Int32 × ZS), WS y1 → NQ S → d_X3_putQuoted_2  n y0 y1 y2 S = some o → NQ o.2 ∧ KE S o.2 := by
  induction n with
  | zero => intro y0 y1 y2 S o c1 hN hf; cases hf
  | succ n ih => intro y0 y1 y2 S o c1 hN hf; exact ke_X3_putQuoted_2s ih hN c1 hf
theorem ke_X3_putQuoted_0 {o : Int32 × ZS} {x0 : Nat} {x1 : Nat} {S : ZS}  (hN : NQ S) (w_x1 : WS x1) (hf : d_X3_putQuoted_0 x0 x1 S = some o) : NQ o.2 ∧ KE S o.2 := by
  unfold d_X3_putQuoted_0 at hf
  obtain ⟨n_9, k_9⟩ := ke_X3_putQuoted_2  _ _ _ _ _ _ w_x1 hN hf
  exact ⟨n_9, ke_t ke_0 k_9⟩
theorem ke_X3_putQuoted {o : Int32 × ZS} {x0 : Nat} {x1 : Nat} {S : ZS}  (hN : NQ S) (w_x1 : WS x1) (hf : d_X3_putQuoted x0 x1 S = some o) : NQ o.2 ∧ KE S o.2 := by
  unfold d_X3_putQuoted at hf
  obtain ⟨n_9, k_9⟩ := ke_X3_putQuoted_0  hN w_x1 hf
  exact ⟨n_9, ke_t ke_0 k_9⟩
theorem ke_X3_putGap_33 {o : Int32 × ZS} {S : ZS}  (hN : NQ S)  (hf : d_X3_putGap_33 S = some o) : NQ o.2 ∧ KE S o.2 := by
  unfold d_X3_putGap_33 at hf
  cases hf
  exact ⟨hN, ke_0⟩
theorem ke_X3_putGap_0 {o : Int32 × ZS} {x0 : Nat} {S : ZS}  (hN : NQ S) (w_x0 : WS x0) (hf : d_X3_putGap_0 x0 S = some o) : NQ o.2 ∧ KE S o.2 := by
  unfold d_X3_putGap_0 at hf
  obtain ⟨q1, hf⟩ := m_chkE hf
  obtain ⟨o1, ho, hf⟩ := m_calE hf
  have r_o1 := ro_X6_size ho
  have n_o1 : NQ o1.2 := by rw [r_o1]; exact hN
  have k_o1 : KE S o1.2 := by rw [r_o1]; exact ke_0
  clear ho
  obtain ⟨-, hf⟩ := m_chkE hf
  obtain ⟨v2, -, hf⟩ := m_bndE hf
  obtain ⟨q2, hf⟩ := m_chkE hf
  obtain ⟨o3, ho, hf⟩ := m_calE hf
  have r_o3 := ro_X6_at ho
  have n_o3 : NQ o3.2 := by rw [r_o3]; exact n_o1
  have k_o3 : KE S o3.2 := by rw [r_o3]; exact k_o1
  clear ho
  obtain ⟨-, hf⟩ := m_chkE hf
  rcases m_ifE hf with ⟨-, hf⟩ | ⟨-, hf⟩
  ·
    obtain ⟨n_9, k_9⟩ := ke_X3_putGap_33  n_o3  hf
    exact ⟨n_9, ke_t k_o3 k_9⟩
  ·
    rcases m_ifE hf with ⟨-, hf⟩ | ⟨-, hf⟩
    ·
      obtain ⟨n_9, k_9⟩ := ke_X3_putGap_33  n_o3  hf
      exact ⟨n_9, ke_t k_o3 k_9⟩
    ·
      rcases m_ifE hf with ⟨-, hf⟩ | ⟨-, hf⟩
      ·
        obtain ⟨n_9, k_9⟩ := ke_X3_putGap_33  n_o3  hf
        exact ⟨n_9, ke_t k_o3 k_9⟩
      ·
        obtain ⟨q3, hf⟩ := m_chkE hf
        obtain ⟨⟨r5, S6⟩, ho, hf⟩ := m_cal2E hf
        obtain ⟨n_S6, k_S6⟩ := ke_X6_put n_o3 w_x0 ho
        replace k_S6 := ke_t k_o3 k_S6
        clear ho
        obtain ⟨n_9, k_9⟩ := ke_X3_putGap_33  n_S6  hf
        exact ⟨n_9, ke_t k_S6 k_9⟩
theorem ke_X3_putGap {o : Int32 × ZS} {x0 : Nat} {S : ZS}  (hN : NQ S) (w_x0 : WS x0) (hf : d_X3_putGap x0 S = some o) : NQ o.2 ∧ KE S o.2 := by
  unfold d_X3_putGap at hf
  obtain ⟨n_9, k_9⟩ := ke_X3_putGap_0  hN w_x0 hf
  exact ⟨n_9, ke_t ke_0 k_9⟩
theorem ke_X3_putRemark_0 {o : Int32 × ZS} {x0 : Nat} {x1 : Nat} {S : ZS}  (hN : NQ S) (w_x1 : WS x1) (hf : d_X3_putRemark_0 x0 x1 S = some o) : NQ o.2 ∧ KE S o.2 := by
  unfold d_X3_putRemark_0 at hf
  obtain ⟨q1, hf⟩ := m_chkE hf
  obtain ⟨b1, p_b1, hf⟩ := m_calE hf
  obtain ⟨q2, hf⟩ := m_chkE hf
  obtain ⟨o2, ho, hf⟩ := m_calE hf
  have r_o2 := ro_X6_size ho
  have n_o2 : NQ o2.2 := by rw [r_o2]; exact hN
  have k_o2 : KE S o2.2 := by rw [r_o2]; exact ke_0
  clear ho
  obtain ⟨-, hf⟩ := m_chkE hf
  rcases m_ifE hf with ⟨-, hf⟩ | ⟨-, hf⟩
  ·
    cases hf
    exact ⟨n_o2, k_o2⟩
  ·
    obtain ⟨⟨r4, S5⟩, ho, hf⟩ := m_cal2E hf
    obtain ⟨n_S5, k_S5⟩ := ke_X3_putGap n_o2 w_x1 ho
    replace k_S5 := ke_t k_o2 k_S5
    clear ho
    obtain ⟨q3, hf⟩ := m_chkE hf
    obtain ⟨⟨r9, S10⟩, ho, hf⟩ := m_cal2E hf
    obtain ⟨n_S10, k_S10⟩ := ke_X6_put n_S5 w_x1 ho
    replace k_S10 := ke_t k_S5 k_S10
    clear ho
    obtain ⟨q4, hf⟩ := m_chkE hf
    obtain ⟨b13, p_b13, hf⟩ := m_calE hf
    obtain ⟨q5, hf⟩ := m_chkE hf
    obtain ⟨⟨r15, S16⟩, ho, hf⟩ := m_cal2E hf
    obtain ⟨n_S16, k_S16⟩ := ke_X6_putAll n_S10 w_x1 ho
    replace k_S16 := ke_t k_S10 k_S16
    clear ho
    obtain ⟨q6, hf⟩ := m_chkE hf
    obtain ⟨⟨r20, S21⟩, ho, hf⟩ := m_cal2E hf
    obtain ⟨n_S21, k_S21⟩ := ke_X6_put n_S16 w_x1 ho
    replace k_S21 := ke_t k_S16 k_S21
    clear ho
    cases hf
    exact ⟨n_S21, k_S21⟩
theorem ke_X3_putRemark {o : Int32 × ZS} {x0 : Nat} {x1 : Nat} {S : ZS}  (hN : NQ S) (w_x1 : WS x1) (hf : d_X3_putRemark x0 x1 S = some o) : NQ o.2 ∧ KE S o.2 := by
  unfold d_X3_putRemark at hf
  obtain ⟨n_9, k_9⟩ := ke_X3_putRemark_0  hN w_x1 hf
  exact ⟨n_9, ke_t ke_0 k_9⟩
theorem ke_X3_putHead_72 {o : Int32 × ZS} {x0 : Nat} {x1 : Nat} {x2 : Nat} {S : ZS}  (hN : NQ S) (w_x0 : WS x0) (w_x2 : WS x2) (hf : d_X3_putHead_72 x0 x1 x2 S = some o) : NQ o.2 ∧ KE S o.2 := by
  unfold d_X3_putHead_72 at hf
  obtain ⟨q1, hf⟩ := m_chkE hf
  obtain ⟨o1, ho, hf⟩ := m_calE hf
  have r_o1 := ro_X1_at ho
  have n_o1 : NQ o1.2 := by rw [r_o1]; exact hN
  have k_o1 : KE S o1.2 := by rw [r_o1]; exact ke_0
  clear ho
  obtain ⟨-, hf⟩ := m_chkE hf
  obtain ⟨⟨r3, S4⟩, ho, hf⟩ := m_cal2E hf
  obtain ⟨n_S4, k_S4⟩ := ke_X3_putRemark n_o1 w_x2 ho
  replace k_S4 := ke_t k_o1 k_S4
  clear ho
  obtain ⟨q2, hf⟩ := m_chkE hf
  obtain ⟨b7, p_b7, hf⟩ := m_calE hf
  obtain ⟨q3, hf⟩ := m_chkE hf
  obtain ⟨q4, hf⟩ := m_chkE hf
  obtain ⟨b8, p_b8, hf⟩ := m_calE hf
  obtain ⟨q5, hf⟩ := m_chkE hf
  obtain ⟨b9, p_b9, hf⟩ := m_calE hf
  obtain ⟨q6, hf⟩ := m_chkE hf
  obtain ⟨o10, ho, hf⟩ := m_calE hf
  obtain ⟨n_o10, k_o10⟩ := ke_X0_copyFrom n_S4 (nq_cb n_S4 q3 (nq_cl n_S4 q2 (by decide) (Or.inl w_x0) p_b7) (fun h => q4 (Or.inr h)) p_b8) ho
  replace k_o10 := ke_t k_S4 k_o10
  clear ho
  obtain ⟨-, hf⟩ := m_chkE hf
  cases hf
  exact ⟨n_o10, k_o10⟩
theorem ke_X3_putHead_2s {o : Int32 × ZS} {self2 : Nat → Nat → Nat → Int32 → ZS → Option (Int32 × ZS)} {x0 : Nat} {x1 : Nat} {x2 : Nat} {x3 : Int32} {S : ZS} (hself2 : ∀ (z0 : Nat) (z1 : Nat) (z2 : Nat) (z3 : Int32) (S : ZS) (o : Int32 × ZS), WS z0 → WS z2 → NQ S → self2 z0 z1 z2 z3 S = some o → NQ o.2 ∧ KE S o.2) (hN : NQ S) (w_x0 : WS x0) (w_x2 : WS x2) (hf : d_X3_putHead_2s self2 x0 x1 x2 x3 S = some o) : NQ o.2 ∧ KE S o.2 := by
  unfold d_X3_putHead_2s at hf
  obtain ⟨q1, hf⟩ := m_chkE hf
  rcases m_ifE hf with ⟨-, hf⟩ | ⟨-, hf⟩
  ·
    obtain ⟨q2, hf⟩ := m_chkE hf
    rcases m_ifE hf with ⟨-, hf⟩ | ⟨-, hf⟩
    ·
      obtain ⟨n_9, k_9⟩ := ke_X3_putHead_72  hN w_x0 w_x2 hf
      exact ⟨n_9, ke_t ke_0 k_9⟩
    ·
      obtain ⟨q3, hf⟩ := m_chkE hf
      obtain ⟨⟨r2, S3⟩, ho, hf⟩ := m_cal2E hf
      obtain ⟨n_S3, k_S3⟩ := ke_X6_put hN w_x2 ho
      replace k_S3 := ke_t ke_0 k_S3
      clear ho
      obtain ⟨n_9, k_9⟩ := ke_X3_putHead_72  n_S3 w_x0 w_x2 hf
      exact ⟨n_9, ke_t k_S3 k_9⟩
  ·
    obtain ⟨q4, hf⟩ := m_chkE hf
    obtain ⟨⟨r7, S8⟩, ho, hf⟩ := m_cal2E hf
    obtain ⟨n_S8, k_S8⟩ := ke_X1_tagAt hN  ho
    replace k_S8 := ke_t ke_0 k_S8
    clear ho
    obtain ⟨q5, hf⟩ := m_chkE hf
    obtain ⟨⟨r12, S13⟩, ho, hf⟩ := m_cal2E hf
    obtain ⟨n_S13, k_S13⟩ := ke_X6_put n_S8 w_x2 ho
    replace k_S13 := ke_t k_S8 k_S13
    clear ho
    obtain ⟨q6, hf⟩ := m_chkE hf
    obtain ⟨b16, p_b16, hf⟩ := m_calE hf
    obtain ⟨q7, hf⟩ := m_chkE hf
    obtain ⟨⟨r18, S19⟩, ho, hf⟩ := m_cal2E hf
    obtain ⟨n_S19, k_S19⟩ := ke_X6_putAll n_S13 w_x2 ho
    replace k_S19 := ke_t k_S13 k_S19
    clear ho
    obtain ⟨q8, hf⟩ := m_chkE hf
    obtain ⟨⟨r23, S24⟩, ho, hf⟩ := m_cal2E hf
    obtain ⟨n_S24, k_S24⟩ := ke_X6_putText n_S19 w_x2 ho
    replace k_S24 := ke_t k_S19 k_S24
    clear ho
    obtain ⟨q9, hf⟩ := m_chkE hf
    obtain ⟨b27, p_b27, hf⟩ := m_calE hf
    obtain ⟨⟨r29, S30⟩, ho, hf⟩ := m_cal2E hf
    obtain ⟨n_S30, k_S30⟩ := ke_X3_putQuoted n_S24 w_x2 ho
    replace k_S30 := ke_t k_S24 k_S30
    clear ho
    obtain ⟨q10, hf⟩ := m_chkE hf
    obtain ⟨⟨r34, S35⟩, ho, hf⟩ := m_cal2E hf
    obtain ⟨n_S35, k_S35⟩ := ke_X6_putText n_S30 w_x2 ho
    replace k_S35 := ke_t k_S30 k_S35
    clear ho
    obtain ⟨v38, -, hf⟩ := m_bndE hf
    obtain ⟨n_9, k_9⟩ := hself2 _ _ _ _ _ _ w_x0 w_x2 n_S35 hf
    exact ⟨n_9, ke_t k_S35 k_9⟩
theorem ke_X3_putHead_2   (n : Nat) : ∀ (y0 : Nat) (y1 : Nat) (y2 : Nat) (y3 : Int32) (S : ZS) (o : Int32 × ZS), WS y0 → WS y2 → NQ S → d_X3_putHead_2  n y0 y1 y2 y3 S = some o → NQ o.2 ∧ KE S o.2 := by
  induction n with
  | zero => intro y0 y1 y2 y3 S o c0 c2 hN hf; cases hf
  | succ n ih => intro y0 y1 y2 y3 S o c0 c2 hN hf; exact ke_X3_putHead_2s ih hN c0 c2 hf
theorem ke_X3_putHead_0 {o : Int32 × ZS} {x0 : Nat} {x1 : Nat} {x2 : Nat} {S : ZS}  (hN : NQ S) (w_x0 : WS x0) (w_x2 : WS x2) (hf : d_X3_putHead_0 x0 x1 x2 S = some o) : NQ o.2 ∧ KE S o.2 := by
  unfold d_X3_putHead_0 at hf
  obtain ⟨n_9, k_9⟩ := ke_X3_putHead_2  _ _ _ _ _ _ _ w_x0 w_x2 hN hf
  exact ⟨n_9, ke_t ke_0 k_9⟩
theorem ke_X3_putHead {o : Int32 × ZS} {x0 : Nat} {x1 : Nat} {x2 : Nat} {S : ZS}  (hN : NQ S) (w_x0 : WS x0) (w_x2 : WS x2) (hf : d_X3_putHead x0 x1 x2 S = some o) : NQ o.2 ∧ KE S o.2 := by
  unfold d_X3_putHead at hf
  obtain ⟨n_9, k_9⟩ := ke_X3_putHead_0  hN w_x0 w_x2 hf
  exact ⟨n_9, ke_t ke_0 k_9⟩
theorem ke_X3_putEnd_0 {o : Int32 × ZS} {x1 : Nat} {x2 : Nat} {S : ZS}  (hN : NQ S) (w_x2 : WS x2) (hf : d_X3_putEnd_0 x1 x2 S = some o) : NQ o.2 ∧ KE S o.2 := by
  unfold d_X3_putEnd_0 at hf
  obtain ⟨⟨r2, S3⟩, ho, hf⟩ := m_cal2E hf
  obtain ⟨n_S3, k_S3⟩ := ke_X3_putGap hN w_x2 ho
  replace k_S3 := ke_t ke_0 k_S3
  clear ho
  obtain ⟨q1, hf⟩ := m_chkE hf
  obtain ⟨o6, ho, hf⟩ := m_calE hf
  have r_o6 := ro_X11_resultSign ho
  have n_o6 : NQ o6.2 := by rw [r_o6]; exact n_S3
  have k_o6 : KE S o6.2 := by rw [r_o6]; exact k_S3
  clear ho
  obtain ⟨-, hf⟩ := m_chkE hf
  obtain ⟨q2, hf⟩ := m_chkE hf
  obtain ⟨⟨r8, S9⟩, ho, hf⟩ := m_cal2E hf
  obtain ⟨n_S9, k_S9⟩ := ke_X6_putText n_o6 w_x2 ho
  replace k_S9 := ke_t k_o6 k_S9
  clear ho
  cases hf
  exact ⟨n_S9, k_S9⟩
theorem ke_X3_putEnd {o : Int32 × ZS} {x0 : Nat} {x1 : Nat} {x2 : Nat} {S : ZS}  (hN : NQ S) (w_x2 : WS x2) (hf : d_X3_putEnd x0 x1 x2 S = some o) : NQ o.2 ∧ KE S o.2 := by
  unfold d_X3_putEnd at hf
  obtain ⟨n_9, k_9⟩ := ke_X3_putEnd_0  hN w_x2 hf
  exact ⟨n_9, ke_t ke_0 k_9⟩
theorem ke_X6_putNumber_29s {o : Int32 × ZS} {self29 : Nat → Int32 → Int32 → ZS → Option (Int32 × ZS)} {x0 : Nat} {x1 : Int32} {x2 : Int32} {S : ZS} (hself29 : ∀ (z0 : Nat) (z1 : Int32) (z2 : Int32) (S : ZS) (o : Int32 × ZS), WS z0 → NQ S → self29 z0 z1 z2 S = some o → NQ o.2 ∧ KE S o.2) (hN : NQ S) (w_x0 : WS x0) (hf : d_X6_putNumber_29s self29 x0 x1 x2 S = some o) : NQ o.2 ∧ KE S o.2 := by
  unfold d_X6_putNumber_29s at hf
  rcases m_ifE hf with ⟨-, hf⟩ | ⟨-, hf⟩
  ·
    cases hf
    exact ⟨hN, ke_0⟩
  ·
    obtain ⟨-, hf⟩ := m_chkE hf
    obtain ⟨v1, -, hf⟩ := m_bndE hf
    obtain ⟨v2, -, hf⟩ := m_bndE hf
    obtain ⟨v3, -, hf⟩ := m_bndE hf
    obtain ⟨v4, -, hf⟩ := m_bndE hf
    obtain ⟨q1, hf⟩ := m_chkE hf
    obtain ⟨⟨r6, S7⟩, ho, hf⟩ := m_cal2E hf
    obtain ⟨n_S7, k_S7⟩ := ke_X6_put hN w_x0 ho
    replace k_S7 := ke_t ke_0 k_S7
    clear ho
    obtain ⟨v10, -, hf⟩ := m_bndE hf
    obtain ⟨n_9, k_9⟩ := hself29 _ _ _ _ _ w_x0 n_S7 hf
    exact ⟨n_9, ke_t k_S7 k_9⟩
theorem ke_X6_putNumber_29   (n : Nat) : ∀ (y0 : Nat) (y1 : Int32) (y2 : Int32) (S : ZS) (o : Int32 × ZS), WS y0 → NQ S → d_X6_putNumber_29  n y0 y1 y2 S = some o → NQ o.2 ∧ KE S o.2 := by
  induction n with
  | zero => intro y0 y1 y2 S o c0 hN hf; cases hf
  | succ n ih => intro y0 y1 y2 S o c0 hN hf; exact ke_X6_putNumber_29s ih hN c0 hf
theorem ke_X6_putNumber_4s {o : Int32 × ZS} {self4 : Nat → Int32 → Int32 → Int32 → ZS → Option (Int32 × ZS)} {x0 : Nat} {x1 : Int32} {x2 : Int32} {x3 : Int32} {S : ZS} (hself4 : ∀ (z0 : Nat) (z1 : Int32) (z2 : Int32) (z3 : Int32) (S : ZS) (o : Int32 × ZS), WS z0 → NQ S → self4 z0 z1 z2 z3 S = some o → NQ o.2 ∧ KE S o.2) (hN : NQ S) (w_x0 : WS x0) (hf : d_X6_putNumber_4s self4 x0 x1 x2 x3 S = some o) : NQ o.2 ∧ KE S o.2 := by
  unfold d_X6_putNumber_4s at hf
  rcases m_ifE hf with ⟨-, hf⟩ | ⟨-, hf⟩
  ·
    obtain ⟨n_9, k_9⟩ := ke_X6_putNumber_29  _ _ _ _ _ _ w_x0 hN hf
    exact ⟨n_9, ke_t ke_0 k_9⟩
  ·
    obtain ⟨-, hf⟩ := m_chkE hf
    obtain ⟨v1, -, hf⟩ := m_bndE hf
    rcases m_ifE hf with ⟨-, hf⟩ | ⟨-, hf⟩
    ·
      obtain ⟨n_9, k_9⟩ := ke_X6_putNumber_29  _ _ _ _ _ _ w_x0 hN hf
      exact ⟨n_9, ke_t ke_0 k_9⟩
    ·
      obtain ⟨v2, -, hf⟩ := m_bndE hf
      obtain ⟨v3, -, hf⟩ := m_bndE hf
      obtain ⟨n_9, k_9⟩ := hself4 _ _ _ _ _ _ w_x0 hN hf
      exact ⟨n_9, ke_t ke_0 k_9⟩
theorem ke_X6_putNumber_4   (n : Nat) : ∀ (y0 : Nat) (y1 : Int32) (y2 : Int32) (y3 : Int32) (S : ZS) (o : Int32 × ZS), WS y0 → NQ S → d_X6_putNumber_4  n y0 y1 y2 y3 S = some o → NQ o.2 ∧ KE S o.2 := by
  induction n with
  | zero => intro y0 y1 y2 y3 S o c0 hN hf; cases hf
  | succ n ih => intro y0 y1 y2 y3 S o c0 hN hf; exact ke_X6_putNumber_4s ih hN c0 hf
theorem ke_X6_putNumber_0 {o : Int32 × ZS} {x0 : Nat} {x1 : Int32} {S : ZS}  (hN : NQ S) (w_x0 : WS x0) (hf : d_X6_putNumber_0 x0 x1 S = some o) : NQ o.2 ∧ KE S o.2 := by
  unfold d_X6_putNumber_0 at hf
  obtain ⟨n_9, k_9⟩ := ke_X6_putNumber_4  _ _ _ _ _ _ _ w_x0 hN hf
  exact ⟨n_9, ke_t ke_0 k_9⟩
theorem ke_X6_putNumber {o : Int32 × ZS} {x0 : Nat} {x1 : Int32} {S : ZS}  (hN : NQ S) (w_x0 : WS x0) (hf : d_X6_putNumber x0 x1 S = some o) : NQ o.2 ∧ KE S o.2 := by
  unfold d_X6_putNumber at hf
  obtain ⟨n_9, k_9⟩ := ke_X6_putNumber_0  hN w_x0 hf
  exact ⟨n_9, ke_t ke_0 k_9⟩
theorem ke_X9_putApart_162 {o : Int32 × ZS} {S : ZS}  (hN : NQ S)  (hf : d_X9_putApart_162 S = some o) : NQ o.2 ∧ KE S o.2 := by
  unfold d_X9_putApart_162 at hf
  cases hf
  exact ⟨hN, ke_0⟩
theorem ke_X9_putApart_148 {o : Int32 × ZS} {x2 : Int32} {x4 : Nat} {x6 : Int32} {S : ZS}  (hN : NQ S) (w_x4 : WS x4) (hf : d_X9_putApart_148 x2 x4 x6 S = some o) : NQ o.2 ∧ KE S o.2 := by
  unfold d_X9_putApart_148 at hf
  rcases m_ifE hf with ⟨-, hf⟩ | ⟨-, hf⟩
  ·
    obtain ⟨n_9, k_9⟩ := ke_X9_putApart_162  hN  hf
    exact ⟨n_9, ke_t ke_0 k_9⟩
  ·
    obtain ⟨o1, ho, hf⟩ := m_calE hf
    have r_o1 := ro_X11_rankDigit ho
    have n_o1 : NQ o1.2 := by rw [r_o1]; exact hN
    have k_o1 : KE S o1.2 := by rw [r_o1]; exact ke_0
    clear ho
    obtain ⟨-, hf⟩ := m_chkE hf
    obtain ⟨q1, hf⟩ := m_chkE hf
    obtain ⟨⟨r3, S4⟩, ho, hf⟩ := m_cal2E hf
    obtain ⟨n_S4, k_S4⟩ := ke_X6_put n_o1 w_x4 ho
    replace k_S4 := ke_t k_o1 k_S4
    clear ho
    obtain ⟨n_9, k_9⟩ := ke_X9_putApart_162  n_S4  hf
    exact ⟨n_9, ke_t k_S4 k_9⟩
theorem ke_X9_putApart_139 {o : Int32 × ZS} {x2 : Int32} {x4 : Nat} {x6 : Int32} {S : ZS}  (hN : NQ S) (w_x4 : WS x4) (hf : d_X9_putApart_139 x2 x4 x6 S = some o) : NQ o.2 ∧ KE S o.2 := by
  unfold d_X9_putApart_139 at hf
  obtain ⟨o1, ho, hf⟩ := m_calE hf
  have r_o1 := ro_X11_fileLetter ho
  have n_o1 : NQ o1.2 := by rw [r_o1]; exact hN
  have k_o1 : KE S o1.2 := by rw [r_o1]; exact ke_0
  clear ho
  obtain ⟨-, hf⟩ := m_chkE hf
  obtain ⟨q1, hf⟩ := m_chkE hf
  obtain ⟨⟨r3, S4⟩, ho, hf⟩ := m_cal2E hf
  obtain ⟨n_S4, k_S4⟩ := ke_X6_put n_o1 w_x4 ho
  replace k_S4 := ke_t k_o1 k_S4
  clear ho
  obtain ⟨n_9, k_9⟩ := ke_X9_putApart_148  n_S4 w_x4 hf
  exact ⟨n_9, ke_t k_S4 k_9⟩
theorem ke_X9_putApart_118 {o : Int32 × ZS} {self12 : Nat → Nat → Int32 → Int32 → Nat → Int32 → Int32 → Int32 → Int32 → ZS → Option (Int32 × ZS)} {x0 : Nat} {x1 : Nat} {x2 : Int32} {x3 : Int32} {x4 : Nat} {x5 : Int32} {x6 : Int32} {x7 : Int32} {x8 : Int32} {S : ZS} (hself12 : ∀ (z0 : Nat) (z1 : Nat) (z2 : Int32) (z3 : Int32) (z4 : Nat) (z5 : Int32) (z6 : Int32) (z7 : Int32) (z8 : Int32) (S : ZS) (o : Int32 × ZS), WS z0 → WS z4 → NQ S → self12 z0 z1 z2 z3 z4 z5 z6 z7 z8 S = some o → NQ o.2 ∧ KE S o.2) (hN : NQ S) (w_x0 : WS x0) (w_x4 : WS x4) (hf : d_X9_putApart_118 self12 x0 x1 x2 x3 x4 x5 x6 x7 x8 S = some o) : NQ o.2 ∧ KE S o.2 := by
  unfold d_X9_putApart_118 at hf
  obtain ⟨v1, -, hf⟩ := m_bndE hf
  obtain ⟨n_9, k_9⟩ := hself12 _ _ _ _ _ _ _ _ _ _ _ w_x0 w_x4 hN hf
  exact ⟨n_9, ke_t ke_0 k_9⟩
theorem ke_X9_putApart_116 {o : Int32 × ZS} {self12 : Nat → Nat → Int32 → Int32 → Nat → Int32 → Int32 → Int32 → Int32 → ZS → Option (Int32 × ZS)} {x0 : Nat} {x1 : Nat} {x2 : Int32} {x3 : Int32} {x4 : Nat} {x5 : Int32} {x6 : Int32} {x8 : Int32} {t0 : Int32} {S : ZS} (hself12 : ∀ (z0 : Nat) (z1 : Nat) (z2 : Int32) (z3 : Int32) (z4 : Nat) (z5 : Int32) (z6 : Int32) (z7 : Int32) (z8 : Int32) (S : ZS) (o : Int32 × ZS), WS z0 → WS z4 → NQ S → self12 z0 z1 z2 z3 z4 z5 z6 z7 z8 S = some o → NQ o.2 ∧ KE S o.2) (hN : NQ S) (w_x0 : WS x0) (w_x4 : WS x4) (hf : d_X9_putApart_116 self12 x0 x1 x2 x3 x4 x5 x6 x8 t0 S = some o) : NQ o.2 ∧ KE S o.2 := by
  unfold d_X9_putApart_116 at hf
  obtain ⟨n_9, k_9⟩ := ke_X9_putApart_118 hself12 hN w_x0 w_x4 hf
  exact ⟨n_9, ke_t ke_0 k_9⟩
theorem ke_X9_putApart_111 {o : Int32 × ZS} {self12 : Nat → Nat → Int32 → Int32 → Nat → Int32 → Int32 → Int32 → Int32 → ZS → Option (Int32 × ZS)} {x0 : Nat} {x1 : Nat} {x2 : Int32} {x3 : Int32} {x4 : Nat} {x5 : Int32} {x6 : Int32} {x8 : Int32} {S : ZS} (hself12 : ∀ (z0 : Nat) (z1 : Nat) (z2 : Int32) (z3 : Int32) (z4 : Nat) (z5 : Int32) (z6 : Int32) (z7 : Int32) (z8 : Int32) (S : ZS) (o : Int32 × ZS), WS z0 → WS z4 → NQ S → self12 z0 z1 z2 z3 z4 z5 z6 z7 z8 S = some o → NQ o.2 ∧ KE S o.2) (hN : NQ S) (w_x0 : WS x0) (w_x4 : WS x4) (hf : d_X9_putApart_111 self12 x0 x1 x2 x3 x4 x5 x6 x8 S = some o) : NQ o.2 ∧ KE S o.2 := by
  unfold d_X9_putApart_111 at hf
  obtain ⟨n_9, k_9⟩ := ke_X9_putApart_116 hself12 hN w_x0 w_x4 hf
  exact ⟨n_9, ke_t ke_0 k_9⟩
theorem ke_X9_putApart_94 {o : Int32 × ZS} {self12 : Nat → Nat → Int32 → Int32 → Nat → Int32 → Int32 → Int32 → Int32 → ZS → Option (Int32 × ZS)} {x0 : Nat} {x1 : Nat} {x2 : Int32} {x3 : Int32} {x4 : Nat} {x5 : Int32} {x7 : Int32} {x8 : Int32} {t0 : Int32} {S : ZS} (hself12 : ∀ (z0 : Nat) (z1 : Nat) (z2 : Int32) (z3 : Int32) (z4 : Nat) (z5 : Int32) (z6 : Int32) (z7 : Int32) (z8 : Int32) (S : ZS) (o : Int32 × ZS), WS z0 → WS z4 → NQ S → self12 z0 z1 z2 z3 z4 z5 z6 z7 z8 S = some o → NQ o.2 ∧ KE S o.2) (hN : NQ S) (w_x0 : WS x0) (w_x4 : WS x4) (hf : d_X9_putApart_94 self12 x0 x1 x2 x3 x4 x5 x7 x8 t0 S = some o) : NQ o.2 ∧ KE S o.2 := by
  unfold d_X9_putApart_94 at hf
  rcases m_ifE hf with ⟨-, hf⟩ | ⟨-, hf⟩
  ·
    obtain ⟨v1, -, hf⟩ := m_bndE hf
    obtain ⟨v2, -, hf⟩ := m_bndE hf
    rcases m_ifE hf with ⟨-, hf⟩ | ⟨-, hf⟩
    ·
      obtain ⟨n_9, k_9⟩ := ke_X9_putApart_111 hself12 hN w_x0 w_x4 hf
      exact ⟨n_9, ke_t ke_0 k_9⟩
    ·
      obtain ⟨n_9, k_9⟩ := ke_X9_putApart_116 hself12 hN w_x0 w_x4 hf
      exact ⟨n_9, ke_t ke_0 k_9⟩
  ·
    obtain ⟨n_9, k_9⟩ := ke_X9_putApart_111 hself12 hN w_x0 w_x4 hf
    exact ⟨n_9, ke_t ke_0 k_9⟩
theorem ke_X9_putApart_89 {o : Int32 × ZS} {self12 : Nat → Nat → Int32 → Int32 → Nat → Int32 → Int32 → Int32 → Int32 → ZS → Option (Int32 × ZS)} {x0 : Nat} {x1 : Nat} {x2 : Int32} {x3 : Int32} {x4 : Nat} {x5 : Int32} {x7 : Int32} {x8 : Int32} {S : ZS} (hself12 : ∀ (z0 : Nat) (z1 : Nat) (z2 : Int32) (z3 : Int32) (z4 : Nat) (z5 : Int32) (z6 : Int32) (z7 : Int32) (z8 : Int32) (S : ZS) (o : Int32 × ZS), WS z0 → WS z4 → NQ S → self12 z0 z1 z2 z3 z4 z5 z6 z7 z8 S = some o → NQ o.2 ∧ KE S o.2) (hN : NQ S) (w_x0 : WS x0) (w_x4 : WS x4) (hf : d_X9_putApart_89 self12 x0 x1 x2 x3 x4 x5 x7 x8 S = some o) : NQ o.2 ∧ KE S o.2 := by
  unfold d_X9_putApart_89 at hf
  obtain ⟨n_9, k_9⟩ := ke_X9_putApart_94 hself12 hN w_x0 w_x4 hf
  exact ⟨n_9, ke_t ke_0 k_9⟩
theorem ke_X9_putApart_12s {o : Int32 × ZS} {self12 : Nat → Nat → Int32 → Int32 → Nat → Int32 → Int32 → Int32 → Int32 → ZS → Option (Int32 × ZS)} {x0 : Nat} {x1 : Nat} {x2 : Int32} {x3 : Int32} {x4 : Nat} {x5 : Int32} {x6 : Int32} {x7 : Int32} {x8 : Int32} {S : ZS} (hself12 : ∀ (z0 : Nat) (z1 : Nat) (z2 : Int32) (z3 : Int32) (z4 : Nat) (z5 : Int32) (z6 : Int32) (z7 : Int32) (z8 : Int32) (S : ZS) (o : Int32 × ZS), WS z0 → WS z4 → NQ S → self12 z0 z1 z2 z3 z4 z5 z6 z7 z8 S = some o → NQ o.2 ∧ KE S o.2) (hN : NQ S) (w_x0 : WS x0) (w_x4 : WS x4) (hf : d_X9_putApart_12s self12 x0 x1 x2 x3 x4 x5 x6 x7 x8 S = some o) : NQ o.2 ∧ KE S o.2 := by
  unfold d_X9_putApart_12s at hf
  rcases m_ifE hf with ⟨-, hf⟩ | ⟨-, hf⟩
  ·
    rcases m_ifE hf with ⟨-, hf⟩ | ⟨-, hf⟩
    ·
      obtain ⟨n_9, k_9⟩ := ke_X9_putApart_148  hN w_x4 hf
      exact ⟨n_9, ke_t ke_0 k_9⟩
    ·
      rcases m_ifE hf with ⟨-, hf⟩ | ⟨-, hf⟩
      ·
        obtain ⟨n_9, k_9⟩ := ke_X9_putApart_139  hN w_x4 hf
        exact ⟨n_9, ke_t ke_0 k_9⟩
      ·
        rcases m_ifE hf with ⟨-, hf⟩ | ⟨-, hf⟩
        ·
          obtain ⟨n_9, k_9⟩ := ke_X9_putApart_148  hN w_x4 hf
          exact ⟨n_9, ke_t ke_0 k_9⟩
        ·
          obtain ⟨n_9, k_9⟩ := ke_X9_putApart_139  hN w_x4 hf
          exact ⟨n_9, ke_t ke_0 k_9⟩
  ·
    rcases m_ifE hf with ⟨-, hf⟩ | ⟨-, hf⟩
    ·
      obtain ⟨n_9, k_9⟩ := ke_X9_putApart_118 hself12 hN w_x0 w_x4 hf
      exact ⟨n_9, ke_t ke_0 k_9⟩
    ·
      obtain ⟨q1, hf⟩ := m_chkE hf
      obtain ⟨b1, p_b1, hf⟩ := m_calE hf
      obtain ⟨q2, hf⟩ := m_chkE hf
      obtain ⟨q3, hf⟩ := m_chkE hf
      obtain ⟨v2, -, hf⟩ := m_bndE hf
      obtain ⟨q4, hf⟩ := m_chkE hf
      obtain ⟨b3, p_b3, hf⟩ := m_calE hf
      obtain ⟨q5, hf⟩ := m_chkE hf
      obtain ⟨q6, hf⟩ := m_chkE hf
      obtain ⟨v4, -, hf⟩ := m_bndE hf
      rcases m_ifE hf with ⟨-, hf⟩ | ⟨-, hf⟩
      ·
        obtain ⟨q7, hf⟩ := m_chkE hf
        obtain ⟨o5, ho, hf⟩ := m_calE hf
        have r_o5 := ro_X0_reaches ho
        have n_o5 : NQ o5.2 := by rw [r_o5]; exact hN
        have k_o5 : KE S o5.2 := by rw [r_o5]; exact ke_0
        clear ho
        obtain ⟨-, hf⟩ := m_chkE hf
        rcases m_ifE hf with ⟨-, hf⟩ | ⟨-, hf⟩
        ·
          obtain ⟨n_9, k_9⟩ := ke_X9_putApart_118 hself12 n_o5 w_x0 w_x4 hf
          exact ⟨n_9, ke_t k_o5 k_9⟩
        ·
          obtain ⟨q8, hf⟩ := m_chkE hf
          obtain ⟨b6, p_b6, hf⟩ := m_calE hf
          obtain ⟨v7, -, hf⟩ := m_bndE hf
          obtain ⟨v8, -, hf⟩ := m_bndE hf
          obtain ⟨q9, hf⟩ := m_chkE hf
          obtain ⟨o9, ho, hf⟩ := m_calE hf
          obtain ⟨n_o9, k_o9⟩ := ke_X7_isSafe n_o5 (nq_cl n_o5 q8 (by decide) (Or.inl w_x0) p_b6) ho
          replace k_o9 := ke_t k_o5 k_o9
          clear ho
          obtain ⟨-, hf⟩ := m_chkE hf
          rcases m_ifE hf with ⟨-, hf⟩ | ⟨-, hf⟩
          ·
            obtain ⟨n_9, k_9⟩ := ke_X9_putApart_118 hself12 n_o9 w_x0 w_x4 hf
            exact ⟨n_9, ke_t k_o9 k_9⟩
          ·
            rcases m_ifE hf with ⟨-, hf⟩ | ⟨-, hf⟩
            ·
              obtain ⟨v10, -, hf⟩ := m_bndE hf
              obtain ⟨v11, -, hf⟩ := m_bndE hf
              rcases m_ifE hf with ⟨-, hf⟩ | ⟨-, hf⟩
              ·
                obtain ⟨n_9, k_9⟩ := ke_X9_putApart_89 hself12 n_o9 w_x0 w_x4 hf
                exact ⟨n_9, ke_t k_o9 k_9⟩
              ·
                obtain ⟨n_9, k_9⟩ := ke_X9_putApart_94 hself12 n_o9 w_x0 w_x4 hf
                exact ⟨n_9, ke_t k_o9 k_9⟩
            ·
              obtain ⟨n_9, k_9⟩ := ke_X9_putApart_89 hself12 n_o9 w_x0 w_x4 hf
              exact ⟨n_9, ke_t k_o9 k_9⟩
      ·
        obtain ⟨n_9, k_9⟩ := ke_X9_putApart_118 hself12 hN w_x0 w_x4 hf
        exact ⟨n_9, ke_t ke_0 k_9⟩
theorem ke_X9_putApart_12   (n : Nat) : ∀ (y0 : Nat) (y1 : Nat) (y2 : Int32) (y3 : Int32) (y4 : Nat) (y5 : Int32) (y6 : Int32) (y7 : Int32) (y8 : Int32) (S : ZS) (o : Int32 × ZS), WS y0 → WS y4 → NQ S → d_X9_putApart_12  n y0 y1 y2 y3 y4 y5 y6 y7 y8 S = some o → NQ o.2 ∧ KE S o.2 := by
  induction n with
  | zero => intro y0 y1 y2 y3 y4 y5 y6 y7 y8 S o c0 c4 hN hf; cases hf
  | succ n ih => intro y0 y1 y2 y3 y4 y5 y6 y7 y8 S o c0 c4 hN hf; exact ke_X9_putApart_12s ih hN c0 c4 hf
theorem ke_X9_putApart_0 {o : Int32 × ZS} {x0 : Nat} {x1 : Nat} {x2 : Int32} {x3 : Int32} {x4 : Nat} {S : ZS}  (hN : NQ S) (w_x0 : WS x0) (w_x4 : WS x4) (hf : d_X9_putApart_0 x0 x1 x2 x3 x4 S = some o) : NQ o.2 ∧ KE S o.2 := by
  unfold d_X9_putApart_0 at hf
  obtain ⟨n_9, k_9⟩ := ke_X9_putApart_12  _ _ _ _ _ _ _ _ _ _ _ _ w_x0 w_x4 hN hf
  exact ⟨n_9, ke_t ke_0 k_9⟩
theorem ke_X9_putApart {o : Int32 × ZS} {x0 : Nat} {x1 : Nat} {x2 : Int32} {x3 : Int32} {x4 : Nat} {S : ZS}  (hN : NQ S) (w_x0 : WS x0) (w_x4 : WS x4) (hf : d_X9_putApart x0 x1 x2 x3 x4 S = some o) : NQ o.2 ∧ KE S o.2 := by
  unfold d_X9_putApart at hf
  obtain ⟨n_9, k_9⟩ := ke_X9_putApart_0  hN w_x0 w_x4 hf
  exact ⟨n_9, ke_t ke_0 k_9⟩
theorem ke_X9_putSigns_182 {o : Int32 × ZS} {S : ZS}  (hN : NQ S)  (hf : d_X9_putSigns_182 S = some o) : NQ o.2 ∧ KE S o.2 := by
  unfold d_X9_putSigns_182 at hf
  cases hf
  exact ⟨hN, ke_0⟩
theorem ke_X9_putSigns_160 {o : Int32 × ZS} {x0 : Nat} {x1 : Nat} {x2 : Int32} {x3 : Nat} {S : ZS}  (hN : NQ S) (w_x0 : WS x0) (w_x3 : WS x3) (hf : d_X9_putSigns_160 x0 x1 x2 x3 S = some o) : NQ o.2 ∧ KE S o.2 := by
  unfold d_X9_putSigns_160 at hf
  obtain ⟨q1, hf⟩ := m_chkE hf
  obtain ⟨b1, p_b1, hf⟩ := m_calE hf
  obtain ⟨q2, hf⟩ := m_chkE hf
  obtain ⟨o2, ho, hf⟩ := m_calE hf
  obtain ⟨n_o2, k_o2⟩ := ke_X7_checkSign hN (nq_cl hN q1 (by decide) (Or.inl w_x0) p_b1) ho
  replace k_o2 := ke_t ke_0 k_o2
  clear ho
  obtain ⟨-, hf⟩ := m_chkE hf
  rcases m_ifE hf with ⟨-, hf⟩ | ⟨-, hf⟩
  ·
    obtain ⟨n_9, k_9⟩ := ke_X9_putSigns_182  n_o2  hf
    exact ⟨n_9, ke_t k_o2 k_9⟩
  ·
    obtain ⟨q3, hf⟩ := m_chkE hf
    obtain ⟨⟨r4, S5⟩, ho, hf⟩ := m_cal2E hf
    obtain ⟨n_S5, k_S5⟩ := ke_X6_put n_o2 w_x3 ho
    replace k_S5 := ke_t k_o2 k_S5
    clear ho
    obtain ⟨n_9, k_9⟩ := ke_X9_putSigns_182  n_S5  hf
    exact ⟨n_9, ke_t k_S5 k_9⟩
theorem ke_X9_putSigns_136 {o : Int32 × ZS} {x0 : Nat} {x1 : Nat} {x2 : Int32} {x3 : Nat} {S : ZS}  (hN : NQ S) (w_x0 : WS x0) (w_x3 : WS x3) (hf : d_X9_putSigns_136 x0 x1 x2 x3 S = some o) : NQ o.2 ∧ KE S o.2 := by
  unfold d_X9_putSigns_136 at hf
  rcases m_ifE hf with ⟨-, hf⟩ | ⟨-, hf⟩
  ·
    obtain ⟨n_9, k_9⟩ := ke_X9_putSigns_160  hN w_x0 w_x3 hf
    exact ⟨n_9, ke_t ke_0 k_9⟩
  ·
    obtain ⟨q1, hf⟩ := m_chkE hf
    obtain ⟨⟨r2, S3⟩, ho, hf⟩ := m_cal2E hf
    obtain ⟨n_S3, k_S3⟩ := ke_X6_put hN w_x3 ho
    replace k_S3 := ke_t ke_0 k_S3
    clear ho
    obtain ⟨v6, -, hf⟩ := m_bndE hf
    obtain ⟨o7, ho, hf⟩ := m_calE hf
    have r_o7 := ro_X11_letterOf ho
    have n_o7 : NQ o7.2 := by rw [r_o7]; exact n_S3
    have k_o7 : KE S o7.2 := by rw [r_o7]; exact k_S3
    clear ho
    obtain ⟨-, hf⟩ := m_chkE hf
    obtain ⟨q2, hf⟩ := m_chkE hf
    obtain ⟨⟨r9, S10⟩, ho, hf⟩ := m_cal2E hf
    obtain ⟨n_S10, k_S10⟩ := ke_X6_put n_o7 w_x3 ho
    replace k_S10 := ke_t k_o7 k_S10
    clear ho
    obtain ⟨n_9, k_9⟩ := ke_X9_putSigns_160  n_S10 w_x0 w_x3 hf
    exact ⟨n_9, ke_t k_S10 k_9⟩
theorem ke_X9_putSigns_118 {o : Int32 × ZS} {x0 : Nat} {x1 : Nat} {x2 : Int32} {x3 : Nat} {x5 : Int32} {S : ZS}  (hN : NQ S) (w_x0 : WS x0) (w_x3 : WS x3) (hf : d_X9_putSigns_118 x0 x1 x2 x3 x5 S = some o) : NQ o.2 ∧ KE S o.2 := by
  unfold d_X9_putSigns_118 at hf
  obtain ⟨o1, ho, hf⟩ := m_calE hf
  have r_o1 := ro_X11_fileLetter ho
  have n_o1 : NQ o1.2 := by rw [r_o1]; exact hN
  have k_o1 : KE S o1.2 := by rw [r_o1]; exact ke_0
  clear ho
  obtain ⟨-, hf⟩ := m_chkE hf
  obtain ⟨q1, hf⟩ := m_chkE hf
  obtain ⟨⟨r3, S4⟩, ho, hf⟩ := m_cal2E hf
  obtain ⟨n_S4, k_S4⟩ := ke_X6_put n_o1 w_x3 ho
  replace k_S4 := ke_t k_o1 k_S4
  clear ho
  obtain ⟨o7, ho, hf⟩ := m_calE hf
  have r_o7 := ro_X11_rankDigit ho
  have n_o7 : NQ o7.2 := by rw [r_o7]; exact n_S4
  have k_o7 : KE S o7.2 := by rw [r_o7]; exact k_S4
  clear ho
  obtain ⟨-, hf⟩ := m_chkE hf
  obtain ⟨q2, hf⟩ := m_chkE hf
  obtain ⟨⟨r9, S10⟩, ho, hf⟩ := m_cal2E hf
  obtain ⟨n_S10, k_S10⟩ := ke_X6_put n_o7 w_x3 ho
  replace k_S10 := ke_t k_o7 k_S10
  clear ho
  obtain ⟨n_9, k_9⟩ := ke_X9_putSigns_136  n_S10 w_x0 w_x3 hf
  exact ⟨n_9, ke_t k_S10 k_9⟩
theorem ke_X9_putSigns_107 {o : Int32 × ZS} {x0 : Nat} {x1 : Nat} {x2 : Int32} {x3 : Nat} {x5 : Int32} {x6 : Int32} {S : ZS}  (hN : NQ S) (w_x0 : WS x0) (w_x3 : WS x3) (hf : d_X9_putSigns_107 x0 x1 x2 x3 x5 x6 S = some o) : NQ o.2 ∧ KE S o.2 := by
  unfold d_X9_putSigns_107 at hf
  rcases m_ifE hf with ⟨-, hf⟩ | ⟨-, hf⟩
  ·
    obtain ⟨n_9, k_9⟩ := ke_X9_putSigns_118  hN w_x0 w_x3 hf
    exact ⟨n_9, ke_t ke_0 k_9⟩
  ·
    obtain ⟨q1, hf⟩ := m_chkE hf
    obtain ⟨⟨r2, S3⟩, ho, hf⟩ := m_cal2E hf
    obtain ⟨n_S3, k_S3⟩ := ke_X6_put hN w_x3 ho
    replace k_S3 := ke_t ke_0 k_S3
    clear ho
    obtain ⟨n_9, k_9⟩ := ke_X9_putSigns_118  n_S3 w_x0 w_x3 hf
    exact ⟨n_9, ke_t k_S3 k_9⟩
theorem ke_X9_putSigns_41 {o : Int32 × ZS} {x0 : Nat} {x1 : Nat} {x2 : Int32} {x3 : Nat} {t0 : Nat} {t1 : Nat} {S : ZS}  (hN : NQ S) (w_x0 : WS x0) (w_x3 : WS x3) (w_t1 : WS t1) (hf : d_X9_putSigns_41 x0 x1 x2 x3 t0 t1 S = some o) : NQ o.2 ∧ KE S o.2 := by
  unfold d_X9_putSigns_41 at hf
  obtain ⟨q1, hf⟩ := m_chkE hf
  obtain ⟨⟨r2, S3⟩, ho, hf⟩ := m_cal2E hf
  obtain ⟨n_S3, k_S3⟩ := ke_X6_putText hN w_t1 ho
  replace k_S3 := ke_t ke_0 k_S3
  clear ho
  obtain ⟨n_9, k_9⟩ := ke_X9_putSigns_136  n_S3 w_x0 w_x3 hf
  exact ⟨n_9, ke_t k_S3 k_9⟩
theorem ke_X9_putSigns_0 {o : Int32 × ZS} {x0 : Nat} {x1 : Nat} {x2 : Int32} {x3 : Nat} {S : ZS}  (hN : NQ S) (w_x0 : WS x0) (w_x3 : WS x3) (hf : d_X9_putSigns_0 x0 x1 x2 x3 S = some o) : NQ o.2 ∧ KE S o.2 := by
  unfold d_X9_putSigns_0 at hf
  obtain ⟨v1, -, hf⟩ := m_bndE hf
  obtain ⟨v2, -, hf⟩ := m_bndE hf
  obtain ⟨v3, -, hf⟩ := m_bndE hf
  obtain ⟨q1, hf⟩ := m_chkE hf
  obtain ⟨o4, ho, hf⟩ := m_calE hf
  have r_o4 := ro_X0_castles ho
  have n_o4 : NQ o4.2 := by rw [r_o4]; exact hN
  have k_o4 : KE S o4.2 := by rw [r_o4]; exact ke_0
  clear ho
  obtain ⟨-, hf⟩ := m_chkE hf
  rcases m_ifE hf with ⟨-, hf⟩ | ⟨-, hf⟩
  ·
    obtain ⟨q2, hf⟩ := m_chkE hf
    obtain ⟨o5, ho, hf⟩ := m_calE hf
    have r_o5 := ro_X0_takes ho
    have n_o5 : NQ o5.2 := by rw [r_o5]; exact n_o4
    have k_o5 : KE S o5.2 := by rw [r_o5]; exact k_o4
    clear ho
    obtain ⟨-, hf⟩ := m_chkE hf
    obtain ⟨q3, hf⟩ := m_chkE hf
    obtain ⟨o6, ho, hf⟩ := m_calE hf
    have r_o6 := ro_X0_kindAt ho
    have n_o6 : NQ o6.2 := by rw [r_o6]; exact n_o5
    have k_o6 : KE S o6.2 := by rw [r_o6]; exact k_o5
    clear ho
    obtain ⟨-, hf⟩ := m_chkE hf
    rcases m_ifE hf with ⟨-, hf⟩ | ⟨-, hf⟩
    ·
      rcases m_ifE hf with ⟨-, hf⟩ | ⟨-, hf⟩
      ·
        obtain ⟨n_9, k_9⟩ := ke_X9_putSigns_107  n_o6 w_x0 w_x3 hf
        exact ⟨n_9, ke_t k_o6 k_9⟩
      ·
        obtain ⟨o7, ho, hf⟩ := m_calE hf
        have r_o7 := ro_X11_fileLetter ho
        have n_o7 : NQ o7.2 := by rw [r_o7]; exact n_o6
        have k_o7 : KE S o7.2 := by rw [r_o7]; exact k_o6
        clear ho
        obtain ⟨-, hf⟩ := m_chkE hf
        obtain ⟨q4, hf⟩ := m_chkE hf
        obtain ⟨⟨r9, S10⟩, ho, hf⟩ := m_cal2E hf
        obtain ⟨n_S10, k_S10⟩ := ke_X6_put n_o7 w_x3 ho
        replace k_S10 := ke_t k_o7 k_S10
        clear ho
        obtain ⟨n_9, k_9⟩ := ke_X9_putSigns_107  n_S10 w_x0 w_x3 hf
        exact ⟨n_9, ke_t k_S10 k_9⟩
    ·
      obtain ⟨q5, hf⟩ := m_chkE hf
      obtain ⟨o13, ho, hf⟩ := m_calE hf
      have r_o13 := ro_X0_kindAt ho
      have n_o13 : NQ o13.2 := by rw [r_o13]; exact n_o6
      have k_o13 : KE S o13.2 := by rw [r_o13]; exact k_o6
      clear ho
      obtain ⟨-, hf⟩ := m_chkE hf
      obtain ⟨o14, ho, hf⟩ := m_calE hf
      have r_o14 := ro_X11_letterOf ho
      have n_o14 : NQ o14.2 := by rw [r_o14]; exact n_o13
      have k_o14 : KE S o14.2 := by rw [r_o14]; exact k_o13
      clear ho
      obtain ⟨-, hf⟩ := m_chkE hf
      obtain ⟨q6, hf⟩ := m_chkE hf
      obtain ⟨⟨r16, S17⟩, ho, hf⟩ := m_cal2E hf
      obtain ⟨n_S17, k_S17⟩ := ke_X6_put n_o14 w_x3 ho
      replace k_S17 := ke_t k_o14 k_S17
      clear ho
      obtain ⟨q7, hf⟩ := m_chkE hf
      obtain ⟨⟨r21, S22⟩, ho, hf⟩ := m_cal2E hf
      obtain ⟨n_S22, k_S22⟩ := ke_X9_putApart n_S17 w_x0 w_x3 ho
      replace k_S22 := ke_t k_S17 k_S22
      clear ho
      obtain ⟨n_9, k_9⟩ := ke_X9_putSigns_107  n_S22 w_x0 w_x3 hf
      exact ⟨n_9, ke_t k_S22 k_9⟩
  ·
    rcases m_ifE hf with ⟨-, hf⟩ | ⟨-, hf⟩
    ·
      obtain ⟨n_9, k_9⟩ := ke_X9_putSigns_41  n_o4 w_x0 w_x3 w_x3 hf
      exact ⟨n_9, ke_t k_o4 k_9⟩
    ·
      obtain ⟨n_9, k_9⟩ := ke_X9_putSigns_41  n_o4 w_x0 w_x3 w_x3 hf
      exact ⟨n_9, ke_t k_o4 k_9⟩
theorem ke_X9_putSigns {o : Int32 × ZS} {x0 : Nat} {x1 : Nat} {x2 : Int32} {x3 : Nat} {S : ZS}  (hN : NQ S) (w_x0 : WS x0) (w_x3 : WS x3) (hf : d_X9_putSigns x0 x1 x2 x3 S = some o) : NQ o.2 ∧ KE S o.2 := by
  unfold d_X9_putSigns at hf
  obtain ⟨n_9, k_9⟩ := ke_X9_putSigns_0  hN w_x0 w_x3 hf
  exact ⟨n_9, ke_t ke_0 k_9⟩
theorem ke_X3_putMove_66s {o : Int32 × ZS} {self66 : Nat → Nat → Int32 → ZS → Option (Int32 × ZS)} {x2 : Nat} {x4 : Nat} {x5 : Int32} {S : ZS} (hself66 : ∀ (z0 : Nat) (z1 : Nat) (z2 : Int32) (S : ZS) (o : Int32 × ZS), WS z1 → NQ S → self66 z0 z1 z2 S = some o → NQ o.2 ∧ KE S o.2) (hN : NQ S) (w_x4 : WS x4) (hf : d_X3_putMove_66s self66 x2 x4 x5 S = some o) : NQ o.2 ∧ KE S o.2 := by
  unfold d_X3_putMove_66s at hf
  obtain ⟨q1, hf⟩ := m_chkE hf
  rcases m_ifE hf with ⟨-, hf⟩ | ⟨-, hf⟩
  ·
    obtain ⟨⟨r2, S3⟩, ho, hf⟩ := m_cal2E hf
    obtain ⟨n_S3, k_S3⟩ := ke_X3_putRemark hN w_x4 ho
    replace k_S3 := ke_t ke_0 k_S3
    clear ho
    cases hf
    exact ⟨n_S3, k_S3⟩
  ·
    obtain ⟨⟨r7, S8⟩, ho, hf⟩ := m_cal2E hf
    obtain ⟨n_S8, k_S8⟩ := ke_X3_putGap hN w_x4 ho
    replace k_S8 := ke_t ke_0 k_S8
    clear ho
    obtain ⟨q2, hf⟩ := m_chkE hf
    obtain ⟨⟨r12, S13⟩, ho, hf⟩ := m_cal2E hf
    obtain ⟨n_S13, k_S13⟩ := ke_X6_put n_S8 w_x4 ho
    replace k_S13 := ke_t k_S8 k_S13
    clear ho
    obtain ⟨q3, hf⟩ := m_chkE hf
    obtain ⟨o16, ho, hf⟩ := m_calE hf
    have r_o16 := ro_X4_markAt ho
    have n_o16 : NQ o16.2 := by rw [r_o16]; exact n_S13
    have k_o16 : KE S o16.2 := by rw [r_o16]; exact k_S13
    clear ho
    obtain ⟨-, hf⟩ := m_chkE hf
    obtain ⟨q4, hf⟩ := m_chkE hf
    obtain ⟨⟨r18, S19⟩, ho, hf⟩ := m_cal2E hf
    obtain ⟨n_S19, k_S19⟩ := ke_X6_putNumber n_o16 w_x4 ho
    replace k_S19 := ke_t k_o16 k_S19
    clear ho
    obtain ⟨v22, -, hf⟩ := m_bndE hf
    obtain ⟨n_9, k_9⟩ := hself66 _ _ _ _ _ w_x4 n_S19 hf
    exact ⟨n_9, ke_t k_S19 k_9⟩
theorem ke_X3_putMove_66   (n : Nat) : ∀ (y0 : Nat) (y1 : Nat) (y2 : Int32) (S : ZS) (o : Int32 × ZS), WS y1 → NQ S → d_X3_putMove_66  n y0 y1 y2 S = some o → NQ o.2 ∧ KE S o.2 := by
  induction n with
  | zero => intro y0 y1 y2 S o c1 hN hf; cases hf
  | succ n ih => intro y0 y1 y2 S o c1 hN hf; exact ke_X3_putMove_66s ih hN c1 hf
theorem ke_X3_putMove_44 {o : Int32 × ZS} {x0 : Nat} {x1 : Nat} {x2 : Nat} {x4 : Nat} {S : ZS}  (hN : NQ S) (w_x0 : WS x0) (w_x4 : WS x4) (hf : d_X3_putMove_44 x0 x1 x2 x4 S = some o) : NQ o.2 ∧ KE S o.2 := by
  unfold d_X3_putMove_44 at hf
  obtain ⟨⟨r2, S3⟩, ho, hf⟩ := m_cal2E hf
  obtain ⟨n_S3, k_S3⟩ := ke_X3_putGap hN w_x4 ho
  replace k_S3 := ke_t ke_0 k_S3
  clear ho
  obtain ⟨q1, hf⟩ := m_chkE hf
  obtain ⟨b6, p_b6, hf⟩ := m_calE hf
  obtain ⟨q2, hf⟩ := m_chkE hf
  obtain ⟨q3, hf⟩ := m_chkE hf
  obtain ⟨⟨r8, S9⟩, ho, hf⟩ := m_cal2E hf
  obtain ⟨n_S9, k_S9⟩ := ke_X9_putSigns n_S3 (nq_cl n_S3 q1 (by decide) (Or.inl w_x0) p_b6) w_x4 ho
  replace k_S9 := ke_t k_S3 k_S9
  clear ho
  obtain ⟨n_9, k_9⟩ := ke_X3_putMove_66  _ _ _ _ _ _ w_x4 n_S9 hf
  exact ⟨n_9, ke_t k_S9 k_9⟩
theorem ke_X3_putMove_41 {o : Int32 × ZS} {x0 : Nat} {x1 : Nat} {x2 : Nat} {x4 : Nat} {t0 : Nat} {t1 : Nat} {S : ZS}  (hN : NQ S) (w_x0 : WS x0) (w_x4 : WS x4) (w_t1 : WS t1) (hf : d_X3_putMove_41 x0 x1 x2 x4 t0 t1 S = some o) : NQ o.2 ∧ KE S o.2 := by
  unfold d_X3_putMove_41 at hf
  obtain ⟨q1, hf⟩ := m_chkE hf
  obtain ⟨⟨r2, S3⟩, ho, hf⟩ := m_cal2E hf
  obtain ⟨n_S3, k_S3⟩ := ke_X6_putText hN w_t1 ho
  replace k_S3 := ke_t ke_0 k_S3
  clear ho
  obtain ⟨n_9, k_9⟩ := ke_X3_putMove_44  n_S3 w_x0 w_x4 hf
  exact ⟨n_9, ke_t k_S3 k_9⟩
theorem ke_X3_putMove_11 {o : Int32 × ZS} {x0 : Nat} {x1 : Nat} {x2 : Nat} {x4 : Nat} {S : ZS}  (hN : NQ S) (w_x0 : WS x0) (w_x4 : WS x4) (hf : d_X3_putMove_11 x0 x1 x2 x4 S = some o) : NQ o.2 ∧ KE S o.2 := by
  unfold d_X3_putMove_11 at hf
  obtain ⟨⟨r2, S3⟩, ho, hf⟩ := m_cal2E hf
  obtain ⟨n_S3, k_S3⟩ := ke_X3_putGap hN w_x4 ho
  replace k_S3 := ke_t ke_0 k_S3
  clear ho
  obtain ⟨q1, hf⟩ := m_chkE hf
  obtain ⟨q2, hf⟩ := m_chkE hf
  obtain ⟨⟨r7, S8⟩, ho, hf⟩ := m_cal2E hf
  obtain ⟨n_S8, k_S8⟩ := ke_X6_putNumber n_S3 w_x4 ho
  replace k_S8 := ke_t k_S3 k_S8
  clear ho
  obtain ⟨q3, hf⟩ := m_chkE hf
  rcases m_ifE hf with ⟨-, hf⟩ | ⟨-, hf⟩
  ·
    obtain ⟨n_9, k_9⟩ := ke_X3_putMove_41  n_S8 w_x0 w_x4 w_x4 hf
    exact ⟨n_9, ke_t k_S8 k_9⟩
  ·
    obtain ⟨n_9, k_9⟩ := ke_X3_putMove_41  n_S8 w_x0 w_x4 w_x4 hf
    exact ⟨n_9, ke_t k_S8 k_9⟩
theorem ke_X3_putMove_0 {o : Int32 × ZS} {x0 : Nat} {x1 : Nat} {x2 : Nat} {x3 : Int32} {x4 : Nat} {S : ZS}  (hN : NQ S) (w_x0 : WS x0) (w_x4 : WS x4) (hf : d_X3_putMove_0 x0 x1 x2 x3 x4 S = some o) : NQ o.2 ∧ KE S o.2 := by
  unfold d_X3_putMove_0 at hf
  obtain ⟨q1, hf⟩ := m_chkE hf
  rcases m_ifE hf with ⟨-, hf⟩ | ⟨-, hf⟩
  ·
    obtain ⟨n_9, k_9⟩ := ke_X3_putMove_11  hN w_x0 w_x4 hf
    exact ⟨n_9, ke_t ke_0 k_9⟩
  ·
    rcases m_ifE hf with ⟨-, hf⟩ | ⟨-, hf⟩
    ·
      obtain ⟨n_9, k_9⟩ := ke_X3_putMove_44  hN w_x0 w_x4 hf
      exact ⟨n_9, ke_t ke_0 k_9⟩
    ·
      obtain ⟨n_9, k_9⟩ := ke_X3_putMove_11  hN w_x0 w_x4 hf
      exact ⟨n_9, ke_t ke_0 k_9⟩
theorem ke_X3_putMove {o : Int32 × ZS} {x0 : Nat} {x1 : Nat} {x2 : Nat} {x3 : Int32} {x4 : Nat} {S : ZS}  (hN : NQ S) (w_x0 : WS x0) (w_x4 : WS x4) (hf : d_X3_putMove x0 x1 x2 x3 x4 S = some o) : NQ o.2 ∧ KE S o.2 := by
  unfold d_X3_putMove at hf
  obtain ⟨n_9, k_9⟩ := ke_X3_putMove_0  hN w_x0 w_x4 hf
  exact ⟨n_9, ke_t ke_0 k_9⟩
theorem ke_X3_putLine_206 {o : Int32 × ZS} {rec : Nat → Nat → Int32 → Int32 → Nat → ZS → Option (Int32 × ZS)} {S : ZS} (hrec : ∀ (z0 : Nat) (z1 : Nat) (z2 : Int32) (z3 : Int32) (z4 : Nat) (S : ZS) (o : Int32 × ZS), WS z0 → WS z4 → NQ S → rec z0 z1 z2 z3 z4 S = some o → NQ o.2 ∧ KE S o.2) (hN : NQ S)  (hf : d_X3_putLine_206 rec S = some o) : NQ o.2 ∧ KE S o.2 := by
  unfold d_X3_putLine_206 at hf
  cases hf
  exact ⟨hN, ke_0⟩
theorem ke_X3_putLine_183 {o : Int32 × ZS} {rec : Nat → Nat → Int32 → Int32 → Nat → ZS → Option (Int32 × ZS)} {self24 : Nat → Nat → Int32 → Nat → Nat → Int32 → Int32 → Int32 → ZS → Option (Int32 × ZS)} {x0 : Nat} {x1 : Nat} {x3 : Int32} {x4 : Nat} {x5 : Nat} {x6 : Int32} {x8 : Int32} {x9 : Nat} {S : ZS} (hrec : ∀ (z0 : Nat) (z1 : Nat) (z2 : Int32) (z3 : Int32) (z4 : Nat) (S : ZS) (o : Int32 × ZS), WS z0 → WS z4 → NQ S → rec z0 z1 z2 z3 z4 S = some o → NQ o.2 ∧ KE S o.2) (hself24 : ∀ (z0 : Nat) (z1 : Nat) (z2 : Int32) (z3 : Nat) (z4 : Nat) (z5 : Int32) (z6 : Int32) (z7 : Int32) (S : ZS) (o : Int32 × ZS), WS z0 → WS z3 → WS z4 → NQ S → self24 z0 z1 z2 z3 z4 z5 z6 z7 S = some o → NQ o.2 ∧ KE S o.2) (hN : NQ S) (w_x0 : WS x0) (w_x4 : WS x4) (w_x5 : WS x5) (hf : d_X3_putLine_183 rec self24 x0 x1 x3 x4 x5 x6 x8 x9 S = some o) : NQ o.2 ∧ KE S o.2 := by
  unfold d_X3_putLine_183 at hf
  obtain ⟨q1, hf⟩ := m_chkE hf
  obtain ⟨q2, hf⟩ := m_chkE hf
  obtain ⟨o1, ho, hf⟩ := m_calE hf
  obtain ⟨n_o1, k_o1⟩ := ke_X0_play hN w_x5 ho
  replace k_o1 := ke_t ke_0 k_o1
  clear ho
  obtain ⟨-, hf⟩ := m_chkE hf
  obtain ⟨q3, hf⟩ := m_chkE hf
  obtain ⟨v2, -, hf⟩ := m_bndE hf
  obtain ⟨n_9, k_9⟩ := hself24 _ _ _ _ _ _ _ _ _ _ w_x0 w_x4 w_x5 n_o1 hf
  exact ⟨n_9, ke_t k_o1 k_9⟩
theorem ke_X3_putLine_99s {o : Int32 × ZS} {rec : Nat → Nat → Int32 → Int32 → Nat → ZS → Option (Int32 × ZS)} {self24 : Nat → Nat → Int32 → Nat → Nat → Int32 → Int32 → Int32 → ZS → Option (Int32 × ZS)} {self99 : Nat → Nat → Int32 → Nat → Nat → Int32 → Int32 → Nat → Int32 → Int32 → ZS → Option (Int32 × ZS)} {x0 : Nat} {x1 : Nat} {x3 : Int32} {x4 : Nat} {x5 : Nat} {x6 : Int32} {x8 : Int32} {x9 : Nat} {x10 : Int32} {x11 : Int32} {S : ZS} (hrec : ∀ (z0 : Nat) (z1 : Nat) (z2 : Int32) (z3 : Int32) (z4 : Nat) (S : ZS) (o : Int32 × ZS), WS z0 → WS z4 → NQ S → rec z0 z1 z2 z3 z4 S = some o → NQ o.2 ∧ KE S o.2) (hself24 : ∀ (z0 : Nat) (z1 : Nat) (z2 : Int32) (z3 : Nat) (z4 : Nat) (z5 : Int32) (z6 : Int32) (z7 : Int32) (S : ZS) (o : Int32 × ZS), WS z0 → WS z3 → WS z4 → NQ S → self24 z0 z1 z2 z3 z4 z5 z6 z7 S = some o → NQ o.2 ∧ KE S o.2) (hself99 : ∀ (z0 : Nat) (z1 : Nat) (z2 : Int32) (z3 : Nat) (z4 : Nat) (z5 : Int32) (z6 : Int32) (z7 : Nat) (z8 : Int32) (z9 : Int32) (S : ZS) (o : Int32 × ZS), WS z0 → WS z3 → WS z4 → NQ S → self99 z0 z1 z2 z3 z4 z5 z6 z7 z8 z9 S = some o → NQ o.2 ∧ KE S o.2) (hN : NQ S) (w_x0 : WS x0) (w_x4 : WS x4) (w_x5 : WS x5) (hf : d_X3_putLine_99s rec self24 self99 x0 x1 x3 x4 x5 x6 x8 x9 x10 x11 S = some o) : NQ o.2 ∧ KE S o.2 := by
  unfold d_X3_putLine_99s at hf
  rcases m_ifE hf with ⟨-, hf⟩ | ⟨-, hf⟩
  ·
    obtain ⟨n_9, k_9⟩ := ke_X3_putLine_183 hrec hself24 hN w_x0 w_x4 w_x5 hf
    exact ⟨n_9, ke_t ke_0 k_9⟩
  ·
    rcases m_ifE hf with ⟨-, hf⟩ | ⟨-, hf⟩
    ·
      obtain ⟨n_9, k_9⟩ := ke_X3_putLine_183 hrec hself24 hN w_x0 w_x4 w_x5 hf
      exact ⟨n_9, ke_t ke_0 k_9⟩
    ·
      rcases m_ifE hf with ⟨-, hf⟩ | ⟨-, hf⟩
      ·
        obtain ⟨n_9, k_9⟩ := ke_X3_putLine_183 hrec hself24 hN w_x0 w_x4 w_x5 hf
        exact ⟨n_9, ke_t ke_0 k_9⟩
      ·
        obtain ⟨q1, hf⟩ := m_chkE hf
        obtain ⟨b1, p_b1, hf⟩ := m_calE hf
        obtain ⟨v2, -, hf⟩ := m_bndE hf
        obtain ⟨q2, hf⟩ := m_chkE hf
        obtain ⟨q3, hf⟩ := m_chkE hf
        obtain ⟨b3, p_b3, hf⟩ := m_calE hf
        obtain ⟨q4, hf⟩ := m_chkE hf
        obtain ⟨o4, ho, hf⟩ := m_calE hf
        obtain ⟨n_o4, k_o4⟩ := ke_X0_copyFrom hN (nq_cb hN q2 (nq_cl hN q1 (by decide) (Or.inl w_x0) p_b1) (fun h => q3 (Or.inr h)) p_b3) ho
        replace k_o4 := ke_t ke_0 k_o4
        clear ho
        obtain ⟨-, hf⟩ := m_chkE hf
        obtain ⟨⟨r6, S7⟩, ho, hf⟩ := m_cal2E hf
        obtain ⟨n_S7, k_S7⟩ := ke_X3_putGap n_o4 w_x4 ho
        replace k_S7 := ke_t k_o4 k_S7
        clear ho
        obtain ⟨q5, hf⟩ := m_chkE hf
        obtain ⟨⟨r11, S12⟩, ho, hf⟩ := m_cal2E hf
        obtain ⟨n_S12, k_S12⟩ := ke_X6_put n_S7 w_x4 ho
        replace k_S12 := ke_t k_S7 k_S12
        clear ho
        obtain ⟨v15, -, hf⟩ := m_bndE hf
        obtain ⟨q6, hf⟩ := m_chkE hf
        obtain ⟨⟨r17, S18⟩, ho, hf⟩ := m_cal2E hf
        obtain ⟨n_S18, k_S18⟩ := hrec _ _ _ _ _ _ _ w_x0 w_x4 n_S12 ho
        replace k_S18 := ke_t k_S12 k_S18
        clear ho
        obtain ⟨q7, hf⟩ := m_chkE hf
        obtain ⟨⟨r22, S23⟩, ho, hf⟩ := m_cal2E hf
        obtain ⟨n_S23, k_S23⟩ := ke_X6_put n_S18 w_x4 ho
        replace k_S23 := ke_t k_S18 k_S23
        clear ho
        obtain ⟨q8, hf⟩ := m_chkE hf
        obtain ⟨o26, ho, hf⟩ := m_calE hf
        have r_o26 := ro_X1_at ho
        have n_o26 : NQ o26.2 := by rw [r_o26]; exact n_S23
        have k_o26 : KE S o26.2 := by rw [r_o26]; exact k_S23
        clear ho
        obtain ⟨-, hf⟩ := m_chkE hf
        obtain ⟨q9, hf⟩ := m_chkE hf
        obtain ⟨v27, -, hf⟩ := m_bndE hf
        obtain ⟨n_9, k_9⟩ := hself99 _ _ _ _ _ _ _ _ _ _ _ _ w_x0 w_x4 w_x5 n_o26 hf
        exact ⟨n_9, ke_t k_o26 k_9⟩
theorem ke_X3_putLine_99 {rec : Nat → Nat → Int32 → Int32 → Nat → ZS → Option (Int32 × ZS)} {self24 : Nat → Nat → Int32 → Nat → Nat → Int32 → Int32 → Int32 → ZS → Option (Int32 × ZS)} (hrec : ∀ (z0 : Nat) (z1 : Nat) (z2 : Int32) (z3 : Int32) (z4 : Nat) (S : ZS) (o : Int32 × ZS), WS z0 → WS z4 → NQ S → rec z0 z1 z2 z3 z4 S = some o → NQ o.2 ∧ KE S o.2) (hself24 : ∀ (z0 : Nat) (z1 : Nat) (z2 : Int32) (z3 : Nat) (z4 : Nat) (z5 : Int32) (z6 : Int32) (z7 : Int32) (S : ZS) (o : Int32 × ZS), WS z0 → WS z3 → WS z4 → NQ S → self24 z0 z1 z2 z3 z4 z5 z6 z7 S = some o → NQ o.2 ∧ KE S o.2) (n : Nat) : ∀ (y0 : Nat) (y1 : Nat) (y2 : Int32) (y3 : Nat) (y4 : Nat) (y5 : Int32) (y6 : Int32) (y7 : Nat) (y8 : Int32) (y9 : Int32) (S : ZS) (o : Int32 × ZS), WS y0 → WS y3 → WS y4 → NQ S → d_X3_putLine_99 rec self24 n y0 y1 y2 y3 y4 y5 y6 y7 y8 y9 S = some o → NQ o.2 ∧ KE S o.2 := by
  induction n with
  | zero => intro y0 y1 y2 y3 y4 y5 y6 y7 y8 y9 S o c0 c3 c4 hN hf; cases hf
  | succ n ih => intro y0 y1 y2 y3 y4 y5 y6 y7 y8 y9 S o c0 c3 c4 hN hf; exact ke_X3_putLine_99s hrec hself24 ih hN c0 c3 c4 hf
theorem ke_X3_putLine_94 {o : Int32 × ZS} {rec : Nat → Nat → Int32 → Int32 → Nat → ZS → Option (Int32 × ZS)} {self24 : Nat → Nat → Int32 → Nat → Nat → Int32 → Int32 → Int32 → ZS → Option (Int32 × ZS)} {x0 : Nat} {x1 : Nat} {x3 : Int32} {x4 : Nat} {x5 : Nat} {x6 : Int32} {x8 : Int32} {x9 : Nat} {t0 : Int32} {S : ZS} (hrec : ∀ (z0 : Nat) (z1 : Nat) (z2 : Int32) (z3 : Int32) (z4 : Nat) (S : ZS) (o : Int32 × ZS), WS z0 → WS z4 → NQ S → rec z0 z1 z2 z3 z4 S = some o → NQ o.2 ∧ KE S o.2) (hself24 : ∀ (z0 : Nat) (z1 : Nat) (z2 : Int32) (z3 : Nat) (z4 : Nat) (z5 : Int32) (z6 : Int32) (z7 : Int32) (S : ZS) (o : Int32 × ZS), WS z0 → WS z3 → WS z4 → NQ S → self24 z0 z1 z2 z3 z4 z5 z6 z7 S = some o → NQ o.2 ∧ KE S o.2) (hN : NQ S) (w_x0 : WS x0) (w_x4 : WS x4) (w_x5 : WS x5) (hf : d_X3_putLine_94 rec self24 x0 x1 x3 x4 x5 x6 x8 x9 t0 S = some o) : NQ o.2 ∧ KE S o.2 := by
  unfold d_X3_putLine_94 at hf
  obtain ⟨n_9, k_9⟩ := ke_X3_putLine_99 hrec hself24 _ _ _ _ _ _ _ _ _ _ _ _ _ w_x0 w_x4 w_x5 hN hf
  exact ⟨n_9, ke_t ke_0 k_9⟩
theorem ke_X3_putLine_74 {o : Int32 × ZS} {rec : Nat → Nat → Int32 → Int32 → Nat → ZS → Option (Int32 × ZS)} {self24 : Nat → Nat → Int32 → Nat → Nat → Int32 → Int32 → Int32 → ZS → Option (Int32 × ZS)} {x0 : Nat} {x1 : Nat} {x3 : Int32} {x4 : Nat} {x5 : Nat} {x7 : Int32} {x8 : Int32} {x9 : Nat} {t0 : Int32} {S : ZS} (hrec : ∀ (z0 : Nat) (z1 : Nat) (z2 : Int32) (z3 : Int32) (z4 : Nat) (S : ZS) (o : Int32 × ZS), WS z0 → WS z4 → NQ S → rec z0 z1 z2 z3 z4 S = some o → NQ o.2 ∧ KE S o.2) (hself24 : ∀ (z0 : Nat) (z1 : Nat) (z2 : Int32) (z3 : Nat) (z4 : Nat) (z5 : Int32) (z6 : Int32) (z7 : Int32) (S : ZS) (o : Int32 × ZS), WS z0 → WS z3 → WS z4 → NQ S → self24 z0 z1 z2 z3 z4 z5 z6 z7 S = some o → NQ o.2 ∧ KE S o.2) (hN : NQ S) (w_x0 : WS x0) (w_x4 : WS x4) (w_x5 : WS x5) (hf : d_X3_putLine_74 rec self24 x0 x1 x3 x4 x5 x7 x8 x9 t0 S = some o) : NQ o.2 ∧ KE S o.2 := by
  unfold d_X3_putLine_74 at hf
  obtain ⟨q1, hf⟩ := m_chkE hf
  obtain ⟨o1, ho, hf⟩ := m_calE hf
  have r_o1 := ro_X1_goesOn ho
  have n_o1 : NQ o1.2 := by rw [r_o1]; exact hN
  have k_o1 : KE S o1.2 := by rw [r_o1]; exact ke_0
  clear ho
  obtain ⟨-, hf⟩ := m_chkE hf
  rcases m_ifE hf with ⟨-, hf⟩ | ⟨-, hf⟩
  ·
    obtain ⟨n_9, k_9⟩ := ke_X3_putLine_94 hrec hself24 n_o1 w_x0 w_x4 w_x5 hf
    exact ⟨n_9, ke_t k_o1 k_9⟩
  ·
    obtain ⟨q2, hf⟩ := m_chkE hf
    obtain ⟨n_9, k_9⟩ := ke_X3_putLine_94 hrec hself24 n_o1 w_x0 w_x4 w_x5 hf
    exact ⟨n_9, ke_t k_o1 k_9⟩
theorem ke_X3_putLine_24s {o : Int32 × ZS} {rec : Nat → Nat → Int32 → Int32 → Nat → ZS → Option (Int32 × ZS)} {self24 : Nat → Nat → Int32 → Nat → Nat → Int32 → Int32 → Int32 → ZS → Option (Int32 × ZS)} {x0 : Nat} {x1 : Nat} {x3 : Int32} {x4 : Nat} {x5 : Nat} {x6 : Int32} {x7 : Int32} {x8 : Int32} {S : ZS} (hrec : ∀ (z0 : Nat) (z1 : Nat) (z2 : Int32) (z3 : Int32) (z4 : Nat) (S : ZS) (o : Int32 × ZS), WS z0 → WS z4 → NQ S → rec z0 z1 z2 z3 z4 S = some o → NQ o.2 ∧ KE S o.2) (hself24 : ∀ (z0 : Nat) (z1 : Nat) (z2 : Int32) (z3 : Nat) (z4 : Nat) (z5 : Int32) (z6 : Int32) (z7 : Int32) (S : ZS) (o : Int32 × ZS), WS z0 → WS z3 → WS z4 → NQ S → self24 z0 z1 z2 z3 z4 z5 z6 z7 S = some o → NQ o.2 ∧ KE S o.2) (hN : NQ S) (w_x0 : WS x0) (w_x4 : WS x4) (w_x5 : WS x5) (hf : d_X3_putLine_24s rec self24 x0 x1 x3 x4 x5 x6 x7 x8 S = some o) : NQ o.2 ∧ KE S o.2 := by
  unfold d_X3_putLine_24s at hf
  rcases m_ifE hf with ⟨-, hf⟩ | ⟨-, hf⟩
  ·
    obtain ⟨n_9, k_9⟩ := ke_X3_putLine_206 hrec hN  hf
    exact ⟨n_9, ke_t ke_0 k_9⟩
  ·
    rcases m_ifE hf with ⟨-, hf⟩ | ⟨-, hf⟩
    ·
      obtain ⟨n_9, k_9⟩ := ke_X3_putLine_206 hrec hN  hf
      exact ⟨n_9, ke_t ke_0 k_9⟩
    ·
      obtain ⟨q1, hf⟩ := m_chkE hf
      obtain ⟨o1, ho, hf⟩ := m_calE hf
      have r_o1 := ro_X1_at ho
      have n_o1 : NQ o1.2 := by rw [r_o1]; exact hN
      have k_o1 : KE S o1.2 := by rw [r_o1]; exact ke_0
      clear ho
      obtain ⟨-, hf⟩ := m_chkE hf
      obtain ⟨q2, hf⟩ := m_chkE hf
      obtain ⟨⟨r3, S4⟩, ho, hf⟩ := m_cal2E hf
      obtain ⟨n_S4, k_S4⟩ := ke_X3_putMove n_o1 w_x0 w_x4 ho
      replace k_S4 := ke_t k_o1 k_S4
      clear ho
      obtain ⟨q3, hf⟩ := m_chkE hf
      obtain ⟨b7, p_b7, hf⟩ := m_calE hf
      obtain ⟨q4, hf⟩ := m_chkE hf
      obtain ⟨o8, ho, hf⟩ := m_calE hf
      have r_o8 := ro_X6_size ho
      have n_o8 : NQ o8.2 := by rw [r_o8]; exact n_S4
      have k_o8 : KE S o8.2 := by rw [r_o8]; exact k_S4
      clear ho
      obtain ⟨-, hf⟩ := m_chkE hf
      rcases m_ifE hf with ⟨-, hf⟩ | ⟨-, hf⟩
      ·
        obtain ⟨n_9, k_9⟩ := ke_X3_putLine_74 hrec hself24 n_o8 w_x0 w_x4 w_x5 hf
        exact ⟨n_9, ke_t k_o8 k_9⟩
      ·
        obtain ⟨n_9, k_9⟩ := ke_X3_putLine_74 hrec hself24 n_o8 w_x0 w_x4 w_x5 hf
        exact ⟨n_9, ke_t k_o8 k_9⟩
theorem ke_X3_putLine_24 {rec : Nat → Nat → Int32 → Int32 → Nat → ZS → Option (Int32 × ZS)} (hrec : ∀ (z0 : Nat) (z1 : Nat) (z2 : Int32) (z3 : Int32) (z4 : Nat) (S : ZS) (o : Int32 × ZS), WS z0 → WS z4 → NQ S → rec z0 z1 z2 z3 z4 S = some o → NQ o.2 ∧ KE S o.2) (n : Nat) : ∀ (y0 : Nat) (y1 : Nat) (y2 : Int32) (y3 : Nat) (y4 : Nat) (y5 : Int32) (y6 : Int32) (y7 : Int32) (S : ZS) (o : Int32 × ZS), WS y0 → WS y3 → WS y4 → NQ S → d_X3_putLine_24 rec n y0 y1 y2 y3 y4 y5 y6 y7 S = some o → NQ o.2 ∧ KE S o.2 := by
  induction n with
  | zero => intro y0 y1 y2 y3 y4 y5 y6 y7 S o c0 c3 c4 hN hf; cases hf
  | succ n ih => intro y0 y1 y2 y3 y4 y5 y6 y7 S o c0 c3 c4 hN hf; exact ke_X3_putLine_24s hrec ih hN c0 c3 c4 hf
theorem ke_X3_putLine_0 {o : Int32 × ZS} {rec : Nat → Nat → Int32 → Int32 → Nat → ZS → Option (Int32 × ZS)} {x0 : Nat} {x1 : Nat} {x2 : Int32} {x3 : Int32} {x4 : Nat} {S : ZS} (hrec : ∀ (z0 : Nat) (z1 : Nat) (z2 : Int32) (z3 : Int32) (z4 : Nat) (S : ZS) (o : Int32 × ZS), WS z0 → WS z4 → NQ S → rec z0 z1 z2 z3 z4 S = some o → NQ o.2 ∧ KE S o.2) (hN : NQ S) (w_x0 : WS x0) (w_x4 : WS x4) (hf : d_X3_putLine_0 rec x0 x1 x2 x3 x4 S = some o) : NQ o.2 ∧ KE S o.2 := by
  unfold d_X3_putLine_0 at hf
  rcases m_ifE hf with ⟨-, hf⟩ | ⟨-, hf⟩
  ·
    obtain ⟨q1, hf⟩ := m_chkE hf
    obtain ⟨b1, p_b1, hf⟩ := m_calE hf
    obtain ⟨q2, hf⟩ := m_chkE hf
    obtain ⟨q3, hf⟩ := m_chkE hf
    obtain ⟨b2, p_b2, hf⟩ := m_calE hf
    obtain ⟨n_9, k_9⟩ := ke_X3_putLine_24 hrec _ _ _ _ _ _ _ _ _ _ _ w_x0 w_x4 (nq_cb hN q2 (nq_cl hN q1 (by decide) (Or.inl w_x0) p_b1) (fun h => q3 (Or.inr h)) p_b2) hN hf
    exact ⟨n_9, ke_t ke_0 k_9⟩
  ·
    cases hf
    exact ⟨hN, ke_0⟩
theorem ke_rX3_putLine   (n : Nat) : ∀ (y0 : Nat) (y1 : Nat) (y2 : Int32) (y3 : Int32) (y4 : Nat) (S : ZS) (o : Int32 × ZS), WS y0 → WS y4 → NQ S → dr_X3_putLine  n y0 y1 y2 y3 y4 S = some o → NQ o.2 ∧ KE S o.2 := by
  induction n with
  | zero => intro y0 y1 y2 y3 y4 S o c0 c4 hN hf; cases hf
  | succ n ih => intro y0 y1 y2 y3 y4 S o c0 c4 hN hf; exact ke_X3_putLine_0 ih hN c0 c4 hf
theorem ke_X3_putLine {o : Int32 × ZS} {x0 : Nat} {x1 : Nat} {x2 : Int32} {x3 : Int32} {x4 : Nat} {S : ZS}  (hN : NQ S) (w_x0 : WS x0) (w_x4 : WS x4) (hf : d_X3_putLine x0 x1 x2 x3 x4 S = some o) : NQ o.2 ∧ KE S o.2 := by
  unfold d_X3_putLine at hf
  obtain ⟨n_9, k_9⟩ := ke_rX3_putLine  _ _ _ _ _ _ _ _ w_x0 w_x4 hN hf
  exact ⟨n_9, ke_t ke_0 k_9⟩
theorem ke_X11_find_0 {o : Int32 × ZS} {x0 : Nat} {S : ZS}  (hN : NQ S) (u_x0 : x0 = 1) (hf : d_X11_find_0 x0 S = some o) : NQ o.2 ∧ KE S o.2 := by
  unfold d_X11_find_0 at hf
  obtain ⟨q1, hf⟩ := m_chkE hf
  obtain ⟨b1, p_b1, hf⟩ := m_calE hf
  obtain ⟨q2, hf⟩ := m_chkE hf
  obtain ⟨b2, p_b2, hf⟩ := m_calE hf
  obtain ⟨q3, hf⟩ := m_chkE hf
  obtain ⟨b3, p_b3, hf⟩ := m_calE hf
  obtain ⟨q4, hf⟩ := m_chkE hf
  obtain ⟨b4, p_b4, hf⟩ := m_calE hf
  obtain ⟨q5, hf⟩ := m_chkE hf
  obtain ⟨o5, ho, hf⟩ := m_calE hf
  have r_o5 := ro_X6_size ho
  have n_o5 : NQ o5.2 := by rw [r_o5]; exact hN
  have k_o5 : KE S o5.2 := by rw [r_o5]; exact ke_0
  clear ho
  obtain ⟨-, hf⟩ := m_chkE hf
  obtain ⟨q6, hf⟩ := m_chkE hf
  obtain ⟨⟨r7, S8⟩, ho, hf⟩ := m_cal2E hf
  obtain ⟨n_S8, k_S8⟩ := ke_X8_matched n_o5 (nq_cl hN q4 (by decide) (Or.inr u_x0) p_b1) ho
  replace k_S8 := ke_t k_o5 k_S8
  clear ho
  cases hf
  exact ⟨n_S8, k_S8⟩
theorem ke_X11_find {o : Int32 × ZS} {x0 : Nat} {S : ZS}  (hN : NQ S) (u_x0 : x0 = 1) (hf : d_X11_find x0 S = some o) : NQ o.2 ∧ KE S o.2 := by
  unfold d_X11_find at hf
  obtain ⟨n_9, k_9⟩ := ke_X11_find_0  hN u_x0 hf
  exact ⟨n_9, ke_t ke_0 k_9⟩
theorem ke_X11_write_0 {o : Int32 × ZS} {x0 : Nat} {S : ZS}  (hN : NQ S) (u_x0 : x0 = 1) (hf : d_X11_write_0 x0 S = some o) : NQ o.2 ∧ KE S o.2 := by
  unfold d_X11_write_0 at hf
  obtain ⟨q1, hf⟩ := m_chkE hf
  obtain ⟨b1, p_b1, hf⟩ := m_calE hf
  obtain ⟨q2, hf⟩ := m_chkE hf
  obtain ⟨o2, ho, hf⟩ := m_calE hf
  obtain ⟨n_o2, k_o2⟩ := ke_X6_keep hN (nq_cl hN q1 (by decide) (Or.inr u_x0) p_b1) ho
  replace k_o2 := ke_t ke_0 k_o2
  clear ho
  obtain ⟨-, hf⟩ := m_chkE hf
  obtain ⟨q3, hf⟩ := m_chkE hf
  obtain ⟨b3, p_b3, hf⟩ := m_calE hf
  obtain ⟨q4, hf⟩ := m_chkE hf
  obtain ⟨b4, p_b4, hf⟩ := m_calE hf
  obtain ⟨q5, hf⟩ := m_chkE hf
  obtain ⟨b5, p_b5, hf⟩ := m_calE hf
  obtain ⟨q6, hf⟩ := m_chkE hf
  obtain ⟨⟨r7, S8⟩, ho, hf⟩ := m_cal2E hf
  obtain ⟨n_S8, k_S8⟩ := ke_X3_putHead n_o2 (nq_cl n_o2 q5 (by decide) (Or.inr u_x0) p_b3) (nq_cl n_o2 q5 (by decide) (Or.inr u_x0) p_b5) ho
  replace k_S8 := ke_t k_o2 k_S8
  clear ho
  obtain ⟨q7, hf⟩ := m_chkE hf
  obtain ⟨b11, p_b11, hf⟩ := m_calE hf
  obtain ⟨q8, hf⟩ := m_chkE hf
  obtain ⟨b12, p_b12, hf⟩ := m_calE hf
  obtain ⟨q9, hf⟩ := m_chkE hf
  obtain ⟨b13, p_b13, hf⟩ := m_calE hf
  obtain ⟨q10, hf⟩ := m_chkE hf
  obtain ⟨o14, ho, hf⟩ := m_calE hf
  have r_o14 := ro_X1_at ho
  have n_o14 : NQ o14.2 := by rw [r_o14]; exact n_S8
  have k_o14 : KE S o14.2 := by rw [r_o14]; exact k_S8
  clear ho
  obtain ⟨-, hf⟩ := m_chkE hf
  obtain ⟨q11, hf⟩ := m_chkE hf
  obtain ⟨q12, hf⟩ := m_chkE hf
  obtain ⟨b15, p_b15, hf⟩ := m_calE hf
  obtain ⟨q13, hf⟩ := m_chkE hf
  obtain ⟨⟨r17, S18⟩, ho, hf⟩ := m_cal2E hf
  obtain ⟨n_S18, k_S18⟩ := ke_X3_putLine n_o14 (nq_cl n_S8 q9 (by decide) (Or.inr u_x0) p_b11) (nq_cl n_o14 q12 (by decide) (Or.inr u_x0) p_b15) ho
  replace k_S18 := ke_t k_o14 k_S18
  clear ho
  obtain ⟨q14, hf⟩ := m_chkE hf
  obtain ⟨b21, p_b21, hf⟩ := m_calE hf
  obtain ⟨q15, hf⟩ := m_chkE hf
  obtain ⟨b22, p_b22, hf⟩ := m_calE hf
  obtain ⟨q16, hf⟩ := m_chkE hf
  obtain ⟨b23, p_b23, hf⟩ := m_calE hf
  obtain ⟨q17, hf⟩ := m_chkE hf
  obtain ⟨⟨r25, S26⟩, ho, hf⟩ := m_cal2E hf
  obtain ⟨n_S26, k_S26⟩ := ke_X3_putEnd n_S18 (nq_cl n_S18 q16 (by decide) (Or.inr u_x0) p_b23) ho
  replace k_S26 := ke_t k_S18 k_S26
  clear ho
  obtain ⟨q18, hf⟩ := m_chkE hf
  obtain ⟨b29, p_b29, hf⟩ := m_calE hf
  obtain ⟨q19, hf⟩ := m_chkE hf
  obtain ⟨o30, ho, hf⟩ := m_calE hf
  have r_o30 := ro_X6_size ho
  have n_o30 : NQ o30.2 := by rw [r_o30]; exact n_S26
  have k_o30 : KE S o30.2 := by rw [r_o30]; exact k_S26
  clear ho
  obtain ⟨-, hf⟩ := m_chkE hf
  cases hf
  exact ⟨n_o30, k_o30⟩
theorem ke_X11_write {o : Int32 × ZS} {x0 : Nat} {S : ZS}  (hN : NQ S) (u_x0 : x0 = 1) (hf : d_X11_write x0 S = some o) : NQ o.2 ∧ KE S o.2 := by
  unfold d_X11_write at hf
  obtain ⟨n_9, k_9⟩ := ke_X11_write_0  hN u_x0 hf
  exact ⟨n_9, ke_t ke_0 k_9⟩
theorem ke_X11_signs_0 {o : (Nat × Int32) × ZS} {x0 : Nat} {x1 : Int32} {S : ZS}  (hN : NQ S) (u_x0 : x0 = 1) (hf : d_X11_signs_0 x0 x1 S = some o) : NQ o.2 ∧ KE S o.2 := by
  unfold d_X11_signs_0 at hf
  obtain ⟨q1, hf⟩ := m_chkE hf
  obtain ⟨b1, p_b1, hf⟩ := m_calE hf
  obtain ⟨q2, hf⟩ := m_chkE hf
  obtain ⟨b2, p_b2, hf⟩ := m_calE hf
  obtain ⟨q3, hf⟩ := m_chkE hf
  obtain ⟨o3, ho, hf⟩ := m_calE hf
  obtain ⟨n_o3, k_o3⟩ := ke_X7_isLegal hN (nq_cl hN q2 (by decide) (Or.inr u_x0) p_b1) ho
  replace k_o3 := ke_t ke_0 k_o3
  clear ho
  obtain ⟨-, hf⟩ := m_chkE hf
  rcases m_ifE hf with ⟨-, hf⟩ | ⟨-, hf⟩
  ·
    cases hf
    exact ⟨nq_q n_o3, ke_q k_o3⟩
  ·
    obtain ⟨q4, hf⟩ := m_chkE hf
    obtain ⟨b4, p_b4, hf⟩ := m_calE hf
    obtain ⟨q5, hf⟩ := m_chkE hf
    obtain ⟨o5, ho, hf⟩ := m_calE hf
    obtain ⟨n_o5, k_o5⟩ := ke_X6_keep n_o3 (nq_cl n_o3 q4 (by decide) (Or.inr u_x0) p_b4) ho
    replace k_o5 := ke_t k_o3 k_o5
    clear ho
    obtain ⟨-, hf⟩ := m_chkE hf
    obtain ⟨q6, hf⟩ := m_chkE hf
    obtain ⟨b6, p_b6, hf⟩ := m_calE hf
    obtain ⟨q7, hf⟩ := m_chkE hf
    obtain ⟨b7, p_b7, hf⟩ := m_calE hf
    obtain ⟨q8, hf⟩ := m_chkE hf
    obtain ⟨b8, p_b8, hf⟩ := m_calE hf
    obtain ⟨q9, hf⟩ := m_chkE hf
    obtain ⟨⟨r10, S11⟩, ho, hf⟩ := m_cal2E hf
    obtain ⟨n_S11, k_S11⟩ := ke_X9_putSigns n_o5 (nq_cl n_o5 q8 (by decide) (Or.inr u_x0) p_b6) (nq_cl n_o5 q8 (by decide) (Or.inr u_x0) p_b8) ho
    replace k_S11 := ke_t k_o5 k_S11
    clear ho
    obtain ⟨q10, hf⟩ := m_chkE hf
    obtain ⟨b14, p_b14, hf⟩ := m_calE hf
    obtain ⟨q11, hf⟩ := m_chkE hf
    obtain ⟨o15, ho, hf⟩ := m_calE hf
    have r_o15 := ro_X6_size ho
    have n_o15 : NQ o15.2 := by rw [r_o15]; exact n_S11
    have k_o15 : KE S o15.2 := by rw [r_o15]; exact k_S11
    clear ho
    obtain ⟨-, hf⟩ := m_chkE hf
    cases hf
    exact ⟨n_o15, k_o15⟩
theorem ke_X11_signs {o : (Nat × Int32) × ZS} {x0 : Nat} {x1 : Int32} {S : ZS}  (hN : NQ S) (u_x0 : x0 = 1) (hf : d_X11_signs x0 x1 S = some o) : NQ o.2 ∧ KE S o.2 := by
  unfold d_X11_signs at hf
  obtain ⟨n_9, k_9⟩ := ke_X11_signs_0  hN u_x0 hf
  exact ⟨n_9, ke_t ke_0 k_9⟩
theorem ke_X11_node_0 {o : (Nat × Int32) × ZS} {x0 : Nat} {x1 : Int32} {x2 : Int32} {S : ZS}  (hN : NQ S)  (hf : d_X11_node_0 x0 x1 x2 S = some o) : NQ o.2 ∧ KE S o.2 := by
  unfold d_X11_node_0 at hf
  obtain ⟨q1, hf⟩ := m_chkE hf
  obtain ⟨b1, p_b1, hf⟩ := m_calE hf
  obtain ⟨q2, hf⟩ := m_chkE hf
  obtain ⟨o2, ho, hf⟩ := m_calE hf
  have r_o2 := ro_X1_has ho
  have n_o2 : NQ o2.2 := by rw [r_o2]; exact hN
  have k_o2 : KE S o2.2 := by rw [r_o2]; exact ke_0
  clear ho
  obtain ⟨-, hf⟩ := m_chkE hf
  rcases m_ifE hf with ⟨-, hf⟩ | ⟨-, hf⟩
  ·
    cases hf
    exact ⟨nq_q n_o2, ke_q k_o2⟩
  ·
    obtain ⟨q3, hf⟩ := m_chkE hf
    obtain ⟨b3, p_b3, hf⟩ := m_calE hf
    obtain ⟨q4, hf⟩ := m_chkE hf
    obtain ⟨o4, ho, hf⟩ := m_calE hf
    have r_o4 := ro_X1_at ho
    have n_o4 : NQ o4.2 := by rw [r_o4]; exact n_o2
    have k_o4 : KE S o4.2 := by rw [r_o4]; exact k_o2
    clear ho
    obtain ⟨-, hf⟩ := m_chkE hf
    rcases m_ifE hf with ⟨-, hf⟩ | ⟨-, hf⟩
    ·
      obtain ⟨q5, hf⟩ := m_chkE hf
      cases hf
      exact ⟨n_o4, k_o4⟩
    ·
      rcases m_ifE hf with ⟨-, hf⟩ | ⟨-, hf⟩
      ·
        obtain ⟨q6, hf⟩ := m_chkE hf
        cases hf
        exact ⟨n_o4, k_o4⟩
      ·
        rcases m_ifE hf with ⟨-, hf⟩ | ⟨-, hf⟩
        ·
          obtain ⟨q7, hf⟩ := m_chkE hf
          cases hf
          exact ⟨n_o4, k_o4⟩
        ·
          rcases m_ifE hf with ⟨-, hf⟩ | ⟨-, hf⟩
          ·
            obtain ⟨q8, hf⟩ := m_chkE hf
            cases hf
            exact ⟨n_o4, k_o4⟩
          ·
            rcases m_ifE hf with ⟨-, hf⟩ | ⟨-, hf⟩
            ·
              obtain ⟨q9, hf⟩ := m_chkE hf
              cases hf
              exact ⟨n_o4, k_o4⟩
            ·
              rcases m_ifE hf with ⟨-, hf⟩ | ⟨-, hf⟩
              ·
                obtain ⟨q10, hf⟩ := m_chkE hf
                obtain ⟨b5, p_b5, hf⟩ := m_calE hf
                obtain ⟨q11, hf⟩ := m_chkE hf
                obtain ⟨o6, ho, hf⟩ := m_calE hf
                have r_o6 := ro_X6_size ho
                have n_o6 : NQ o6.2 := by rw [r_o6]; exact n_o4
                have k_o6 : KE S o6.2 := by rw [r_o6]; exact k_o4
                clear ho
                obtain ⟨-, hf⟩ := m_chkE hf
                cases hf
                exact ⟨n_o6, k_o6⟩
              ·
                cases hf
                exact ⟨nq_q n_o4, ke_q k_o4⟩
theorem ke_X11_node {o : (Nat × Int32) × ZS} {x0 : Nat} {x1 : Int32} {x2 : Int32} {S : ZS}  (hN : NQ S)  (hf : d_X11_node x0 x1 x2 S = some o) : NQ o.2 ∧ KE S o.2 := by
  unfold d_X11_node at hf
  obtain ⟨n_9, k_9⟩ := ke_X11_node_0  hN  hf
  exact ⟨n_9, ke_t ke_0 k_9⟩
theorem ke_X11_mark_30 {o : (Nat × Int32) × ZS} {S : ZS}  (hN : NQ S)  (hf : d_X11_mark_30 S = some o) : NQ o.2 ∧ KE S o.2 := by
  unfold d_X11_mark_30 at hf
  cases hf
  exact ⟨nq_q hN, ke_q ke_0⟩
theorem ke_X11_mark_0 {o : (Nat × Int32) × ZS} {x0 : Nat} {x1 : Int32} {x2 : Int32} {S : ZS}  (hN : NQ S)  (hf : d_X11_mark_0 x0 x1 x2 S = some o) : NQ o.2 ∧ KE S o.2 := by
  unfold d_X11_mark_0 at hf
  obtain ⟨q1, hf⟩ := m_chkE hf
  obtain ⟨b1, p_b1, hf⟩ := m_calE hf
  obtain ⟨q2, hf⟩ := m_chkE hf
  obtain ⟨o2, ho, hf⟩ := m_calE hf
  have r_o2 := ro_X1_has ho
  have n_o2 : NQ o2.2 := by rw [r_o2]; exact hN
  have k_o2 : KE S o2.2 := by rw [r_o2]; exact ke_0
  clear ho
  obtain ⟨-, hf⟩ := m_chkE hf
  rcases m_ifE hf with ⟨-, hf⟩ | ⟨-, hf⟩
  ·
    obtain ⟨n_9, k_9⟩ := ke_X11_mark_30  n_o2  hf
    exact ⟨n_9, ke_t k_o2 k_9⟩
  ·
    rcases m_ifE hf with ⟨-, hf⟩ | ⟨-, hf⟩
    ·
      obtain ⟨n_9, k_9⟩ := ke_X11_mark_30  n_o2  hf
      exact ⟨n_9, ke_t k_o2 k_9⟩
    ·
      obtain ⟨q3, hf⟩ := m_chkE hf
      obtain ⟨b3, p_b3, hf⟩ := m_calE hf
      obtain ⟨q4, hf⟩ := m_chkE hf
      obtain ⟨o4, ho, hf⟩ := m_calE hf
      have r_o4 := ro_X1_at ho
      have n_o4 : NQ o4.2 := by rw [r_o4]; exact n_o2
      have k_o4 : KE S o4.2 := by rw [r_o4]; exact k_o2
      clear ho
      obtain ⟨-, hf⟩ := m_chkE hf
      obtain ⟨q5, hf⟩ := m_chkE hf
      rcases m_ifE hf with ⟨-, hf⟩ | ⟨-, hf⟩
      ·
        obtain ⟨q6, hf⟩ := m_chkE hf
        obtain ⟨b5, p_b5, hf⟩ := m_calE hf
        obtain ⟨q7, hf⟩ := m_chkE hf
        obtain ⟨o6, ho, hf⟩ := m_calE hf
        have r_o6 := ro_X1_at ho
        have n_o6 : NQ o6.2 := by rw [r_o6]; exact n_o4
        have k_o6 : KE S o6.2 := by rw [r_o6]; exact k_o4
        clear ho
        obtain ⟨-, hf⟩ := m_chkE hf
        obtain ⟨q8, hf⟩ := m_chkE hf
        obtain ⟨o7, ho, hf⟩ := m_calE hf
        have r_o7 := ro_X4_markAt ho
        have n_o7 : NQ o7.2 := by rw [r_o7]; exact n_o6
        have k_o7 : KE S o7.2 := by rw [r_o7]; exact k_o6
        clear ho
        obtain ⟨-, hf⟩ := m_chkE hf
        cases hf
        exact ⟨n_o7, k_o7⟩
      ·
        obtain ⟨n_9, k_9⟩ := ke_X11_mark_30  n_o4  hf
        exact ⟨n_9, ke_t k_o4 k_9⟩
theorem ke_X11_mark {o : (Nat × Int32) × ZS} {x0 : Nat} {x1 : Int32} {x2 : Int32} {S : ZS}  (hN : NQ S)  (hf : d_X11_mark x0 x1 x2 S = some o) : NQ o.2 ∧ KE S o.2 := by
  unfold d_X11_mark at hf
  obtain ⟨n_9, k_9⟩ := ke_X11_mark_0  hN  hf
  exact ⟨n_9, ke_t ke_0 k_9⟩
theorem ke_X11_remark_33 {o : (Nat × Int32) × ZS} {S : ZS}  (hN : NQ S)  (hf : d_X11_remark_33 S = some o) : NQ o.2 ∧ KE S o.2 := by
  unfold d_X11_remark_33 at hf
  cases hf
  exact ⟨nq_q hN, ke_q ke_0⟩
theorem ke_X11_remark_0 {o : (Nat × Int32) × ZS} {x0 : Nat} {x1 : Int32} {x2 : Int32} {S : ZS}  (hN : NQ S)  (hf : d_X11_remark_0 x0 x1 x2 S = some o) : NQ o.2 ∧ KE S o.2 := by
  unfold d_X11_remark_0 at hf
  obtain ⟨q1, hf⟩ := m_chkE hf
  obtain ⟨b1, p_b1, hf⟩ := m_calE hf
  obtain ⟨q2, hf⟩ := m_chkE hf
  obtain ⟨o2, ho, hf⟩ := m_calE hf
  have r_o2 := ro_X1_has ho
  have n_o2 : NQ o2.2 := by rw [r_o2]; exact hN
  have k_o2 : KE S o2.2 := by rw [r_o2]; exact ke_0
  clear ho
  obtain ⟨-, hf⟩ := m_chkE hf
  rcases m_ifE hf with ⟨-, hf⟩ | ⟨-, hf⟩
  ·
    obtain ⟨n_9, k_9⟩ := ke_X11_remark_33  n_o2  hf
    exact ⟨n_9, ke_t k_o2 k_9⟩
  ·
    rcases m_ifE hf with ⟨-, hf⟩ | ⟨-, hf⟩
    ·
      obtain ⟨n_9, k_9⟩ := ke_X11_remark_33  n_o2  hf
      exact ⟨n_9, ke_t k_o2 k_9⟩
    ·
      obtain ⟨q3, hf⟩ := m_chkE hf
      obtain ⟨b3, p_b3, hf⟩ := m_calE hf
      obtain ⟨q4, hf⟩ := m_chkE hf
      obtain ⟨o4, ho, hf⟩ := m_calE hf
      have r_o4 := ro_X1_at ho
      have n_o4 : NQ o4.2 := by rw [r_o4]; exact n_o2
      have k_o4 : KE S o4.2 := by rw [r_o4]; exact k_o2
      clear ho
      obtain ⟨-, hf⟩ := m_chkE hf
      obtain ⟨q5, hf⟩ := m_chkE hf
      obtain ⟨b5, p_b5, hf⟩ := m_calE hf
      obtain ⟨q6, hf⟩ := m_chkE hf
      obtain ⟨o6, ho, hf⟩ := m_calE hf
      have r_o6 := ro_X6_size ho
      have n_o6 : NQ o6.2 := by rw [r_o6]; exact n_o4
      have k_o6 : KE S o6.2 := by rw [r_o6]; exact k_o4
      clear ho
      obtain ⟨-, hf⟩ := m_chkE hf
      rcases m_ifE hf with ⟨-, hf⟩ | ⟨-, hf⟩
      ·
        obtain ⟨q7, hf⟩ := m_chkE hf
        obtain ⟨b7, p_b7, hf⟩ := m_calE hf
        obtain ⟨q8, hf⟩ := m_chkE hf
        obtain ⟨o8, ho, hf⟩ := m_calE hf
        have r_o8 := ro_X1_at ho
        have n_o8 : NQ o8.2 := by rw [r_o8]; exact n_o6
        have k_o8 : KE S o8.2 := by rw [r_o8]; exact k_o6
        clear ho
        obtain ⟨-, hf⟩ := m_chkE hf
        obtain ⟨q9, hf⟩ := m_chkE hf
        obtain ⟨b9, p_b9, hf⟩ := m_calE hf
        obtain ⟨q10, hf⟩ := m_chkE hf
        obtain ⟨o10, ho, hf⟩ := m_calE hf
        have r_o10 := ro_X6_at ho
        have n_o10 : NQ o10.2 := by rw [r_o10]; exact n_o8
        have k_o10 : KE S o10.2 := by rw [r_o10]; exact k_o8
        clear ho
        obtain ⟨-, hf⟩ := m_chkE hf
        cases hf
        exact ⟨n_o10, k_o10⟩
      ·
        obtain ⟨n_9, k_9⟩ := ke_X11_remark_33  n_o6  hf
        exact ⟨n_9, ke_t k_o6 k_9⟩
theorem ke_X11_remark {o : (Nat × Int32) × ZS} {x0 : Nat} {x1 : Int32} {x2 : Int32} {S : ZS}  (hN : NQ S)  (hf : d_X11_remark x0 x1 x2 S = some o) : NQ o.2 ∧ KE S o.2 := by
  unfold d_X11_remark at hf
  obtain ⟨n_9, k_9⟩ := ke_X11_remark_0  hN  hf
  exact ⟨n_9, ke_t ke_0 k_9⟩
theorem ke_X11_man_10 {o : (Nat × Int32) × ZS} {S : ZS}  (hN : NQ S)  (hf : d_X11_man_10 S = some o) : NQ o.2 ∧ KE S o.2 := by
  unfold d_X11_man_10 at hf
  cases hf
  exact ⟨nq_q hN, ke_q ke_0⟩
theorem ke_X11_man_0 {o : (Nat × Int32) × ZS} {x0 : Nat} {x1 : Int32} {S : ZS}  (hN : NQ S)  (hf : d_X11_man_0 x0 x1 S = some o) : NQ o.2 ∧ KE S o.2 := by
  unfold d_X11_man_0 at hf
  rcases m_ifE hf with ⟨-, hf⟩ | ⟨-, hf⟩
  ·
    obtain ⟨n_9, k_9⟩ := ke_X11_man_10  hN  hf
    exact ⟨n_9, ke_t ke_0 k_9⟩
  ·
    rcases m_ifE hf with ⟨-, hf⟩ | ⟨-, hf⟩
    ·
      obtain ⟨q1, hf⟩ := m_chkE hf
      obtain ⟨b1, p_b1, hf⟩ := m_calE hf
      obtain ⟨q2, hf⟩ := m_chkE hf
      obtain ⟨b2, p_b2, hf⟩ := m_calE hf
      obtain ⟨q3, hf⟩ := m_chkE hf
      obtain ⟨q4, hf⟩ := m_chkE hf
      obtain ⟨v3, -, hf⟩ := m_bndE hf
      cases hf
      exact ⟨hN, ke_0⟩
    ·
      obtain ⟨n_9, k_9⟩ := ke_X11_man_10  hN  hf
      exact ⟨n_9, ke_t ke_0 k_9⟩
theorem ke_X11_man {o : (Nat × Int32) × ZS} {x0 : Nat} {x1 : Int32} {S : ZS}  (hN : NQ S)  (hf : d_X11_man x0 x1 S = some o) : NQ o.2 ∧ KE S o.2 := by
  unfold d_X11_man at hf
  obtain ⟨n_9, k_9⟩ := ke_X11_man_0  hN  hf
  exact ⟨n_9, ke_t ke_0 k_9⟩
theorem ke_X11_tag_19 {o : (Nat × Int32) × ZS} {S : ZS}  (hN : NQ S)  (hf : d_X11_tag_19 S = some o) : NQ o.2 ∧ KE S o.2 := by
  unfold d_X11_tag_19 at hf
  cases hf
  exact ⟨nq_q hN, ke_q ke_0⟩
theorem ke_X11_tag_65 {o : (Nat × Int32) × ZS} {t0 : Int32} {S : ZS}  (hN : NQ S)  (hf : d_X11_tag_65 t0 S = some o) : NQ o.2 ∧ KE S o.2 := by
  unfold d_X11_tag_65 at hf
  cases hf
  exact ⟨hN, ke_0⟩
theorem ke_X11_tag_0 {o : (Nat × Int32) × ZS} {x0 : Nat} {x1 : Int32} {x2 : Int32} {x3 : Int32} {S : ZS}  (hN : NQ S)  (hf : d_X11_tag_0 x0 x1 x2 x3 S = some o) : NQ o.2 ∧ KE S o.2 := by
  unfold d_X11_tag_0 at hf
  rcases m_ifE hf with ⟨-, hf⟩ | ⟨-, hf⟩
  ·
    obtain ⟨n_9, k_9⟩ := ke_X11_tag_19  hN  hf
    exact ⟨n_9, ke_t ke_0 k_9⟩
  ·
    obtain ⟨q1, hf⟩ := m_chkE hf
    obtain ⟨b1, p_b1, hf⟩ := m_calE hf
    obtain ⟨q2, hf⟩ := m_chkE hf
    rcases m_ifE hf with ⟨-, hf⟩ | ⟨-, hf⟩
    ·
      obtain ⟨n_9, k_9⟩ := ke_X11_tag_19  hN  hf
      exact ⟨n_9, ke_t ke_0 k_9⟩
    ·
      rcases m_ifE hf with ⟨-, hf⟩ | ⟨-, hf⟩
      ·
        obtain ⟨q3, hf⟩ := m_chkE hf
        obtain ⟨b2, p_b2, hf⟩ := m_calE hf
        obtain ⟨q4, hf⟩ := m_chkE hf
        obtain ⟨⟨r4, S5⟩, ho, hf⟩ := m_cal2E hf
        obtain ⟨n_S5, k_S5⟩ := ke_X1_tagAt hN  ho
        replace k_S5 := ke_t ke_0 k_S5
        clear ho
        rcases m_ifE hf with ⟨-, hf⟩ | ⟨-, hf⟩
        ·
          obtain ⟨q5, hf⟩ := m_chkE hf
          obtain ⟨b8, p_b8, hf⟩ := m_calE hf
          obtain ⟨q6, hf⟩ := m_chkE hf
          obtain ⟨o9, ho, hf⟩ := m_calE hf
          have r_o9 := ro_X6_at ho
          have n_o9 : NQ o9.2 := by rw [r_o9]; exact n_S5
          have k_o9 : KE S o9.2 := by rw [r_o9]; exact k_S5
          clear ho
          obtain ⟨-, hf⟩ := m_chkE hf
          obtain ⟨n_9, k_9⟩ := ke_X11_tag_65  n_o9  hf
          exact ⟨n_9, ke_t k_o9 k_9⟩
        ·
          obtain ⟨q7, hf⟩ := m_chkE hf
          obtain ⟨b10, p_b10, hf⟩ := m_calE hf
          obtain ⟨q8, hf⟩ := m_chkE hf
          obtain ⟨o11, ho, hf⟩ := m_calE hf
          have r_o11 := ro_X6_at ho
          have n_o11 : NQ o11.2 := by rw [r_o11]; exact n_S5
          have k_o11 : KE S o11.2 := by rw [r_o11]; exact k_S5
          clear ho
          obtain ⟨-, hf⟩ := m_chkE hf
          obtain ⟨n_9, k_9⟩ := ke_X11_tag_65  n_o11  hf
          exact ⟨n_9, ke_t k_o11 k_9⟩
      ·
        obtain ⟨n_9, k_9⟩ := ke_X11_tag_19  hN  hf
        exact ⟨n_9, ke_t ke_0 k_9⟩
theorem ke_X11_tag {o : (Nat × Int32) × ZS} {x0 : Nat} {x1 : Int32} {x2 : Int32} {x3 : Int32} {S : ZS}  (hN : NQ S)  (hf : d_X11_tag x0 x1 x2 x3 S = some o) : NQ o.2 ∧ KE S o.2 := by
  unfold d_X11_tag at hf
  obtain ⟨n_9, k_9⟩ := ke_X11_tag_0  hN  hf
  exact ⟨n_9, ke_t ke_0 k_9⟩
