theorem lt18 {S : ZS} {a k : Nat} (h : zK S a = k) (hk : k < 18) : zK S a < 18 := by rw [h]; exact hk
theorem rL_x1 {a : Nat} (h1 : 1 ≤ rc a) (h2 : rc a ≤ 1) : rL a = 2000 := by
  unfold rL
  rw [if_neg (by omega), if_pos (by omega)]
theorem rL_x2 {a : Nat} (h1 : 2 ≤ rc a) (h2 : rc a ≤ 2) : rL a = 2000 := by
  unfold rL
  rw [if_neg (by omega), if_pos (by omega)]
theorem rL_x3 {a : Nat} (h1 : 3 ≤ rc a) (h2 : rc a ≤ 3) : rL a = 90000 := by
  unfold rL
  rw [if_pos (by omega)]
theorem rc_ol {a : Nat} (h : rL a = 90000) : rc a ≠ 2 := fun e => by
  unfold rL at h
  rw [if_neg (by omega), if_pos (by omega)] at h
  omega
theorem ok_of {α : Type} {x : Option α} {r : α} {Q : α → Prop} (h : Ok x Q) (e : x = some r) : Q r := by
  obtain ⟨y, h1, h2⟩ := h
  rw [e] at h1
  cases h1
  exact h2
theorem keep_len {S S' : ZS} {x0 : Nat} {x1 r : Int32} (hk : zK S x0 = 6) (h : f_X6_keep x0 x1 S = some (r, S')) (h1 : 0 ≤ x1.toInt) : (zI S' 1 x0).toInt ≤ x1.toInt := by
  refine ok_of (Q := fun o => (zI o.2 1 x0).toInt ≤ x1.toInt) ?_ h
  show Ok (f_X6_keep_0 x0 x1 S) _
  unfold f_X6_keep_0
  refine ok_if (fun c => ?_) (fun c => ?_)
  · have := ti_ltP (a := x1) (b := 0) c rfl rfl
    have z : (0 : Int32).toInt = 0 := rfl
    omega
  · refine ok_chk hk (ok_if (fun c2 => ?_) (fun c2 => ?_))
    · exact ok_ret (ti_leP (a := zI S 1 x0) (b := x1) c2 rfl rfl)
    · refine ok_chk hk (ok_bnd (fun S1 e1 => ok_ret ?_))
      show (zI S1 1 x0).toInt ≤ _
      rw [e1, zI_self]
      exact Int.le_refl _
theorem keep_x {S : ZS} {x0 : Nat} {x1 : Int32} (hT : ZT S) (hk : zK S x0 = 6) : ∃ y S', f_X6_keep x0 x1 S = some (y, S') ∧ ZT S' ∧ EqT S S' ∧ ((S' = S ∧ (x1.toInt < 0 ∨ (zI S 1 x0).toInt ≤ x1.toInt)) ∨ (S' = zsI S 1 x0 x1 ∧ 0 ≤ x1.toInt ∧ x1.toInt < (zI S 1 x0).toInt)) := by
  have z : (0 : Int32).toInt = 0 := rfl
  have h : Ok (f_X6_keep_0 x0 x1 S) (fun o => ZT o.2 ∧ EqT S o.2 ∧ ((o.2 = S ∧ (x1.toInt < 0 ∨ (zI S 1 x0).toInt ≤ x1.toInt)) ∨ (o.2 = zsI S 1 x0 x1 ∧ 0 ≤ x1.toInt ∧ x1.toInt < (zI S 1 x0).toInt))) := by
    unfold f_X6_keep_0
    refine ok_if (fun c => ?_) (fun c => ?_)
    · have c := ti_ltP (a := x1) (b := 0) c rfl rfl
      exact ok_ret ⟨hT, eqt_0, Or.inl ⟨rfl, Or.inl (by omega)⟩⟩
    · have c := ti_ltN (a := x1) (b := 0) c rfl rfl
      refine ok_chk hk (ok_if (fun c2 => ?_) (fun c2 => ?_))
      · exact ok_ret ⟨hT, eqt_0, Or.inl ⟨rfl, Or.inr (ti_leP (a := zI S 1 x0) (b := x1) c2 rfl rfl)⟩⟩
      · have c2 := ti_leN (a := zI S 1 x0) (b := x1) c2 rfl rfl
        refine ok_chk hk (ok_bnd (fun S1 e1 => ?_))
        have T1 : ZT S1 := e1.symm ▸ zt_len hT hk (by omega) (by omega)
        exact ok_ret ⟨T1, by rw [e1]; exact eqt_0, Or.inr ⟨e1, by omega, by omega⟩⟩
  obtain ⟨⟨y, S'⟩, h1, h2⟩ := h
  exact ⟨y, S', h1, h2⟩
theorem t_d_X6_putAll_2s {SZ S : ZS} {self2 : Nat → Nat → Int32 → ZS → Option (Int32 × ZS)} {N2 : Nat} (hself2 : ∀ (x0 : Nat) (x1 : Nat) (x2 : Int32) (S : ZS), ZT S → RP SZ S → (zK S x0 = 6) → (zK S x1 = 6) → ((0 : Int) ≤ x2.toInt ∧ x2.toInt ≤ (90000 : Int)) → (x0 ≠ x1) → ((zI SZ 1 x0).toInt + (zI SZ 1 x1).toInt ≤ (rL x0 : Int)) → ((zI S 1 x0).toInt = (zI SZ 1 x0).toInt + x2.toInt) → (∀ a, a ≠ x0 → zI S 1 a = zI SZ 1 a) → (x2.toInt ≤ (zI SZ 1 x1).toInt) → (rc x0 ≠ 2) → (90001 - x2.toInt) < (N2 : Int) → Ok (self2 x0 x1 x2 S) (fun o => ZT o.2 ∧ RP SZ o.2 ∧ ((zI o.2 1 x0).toInt = (zI SZ 1 x0).toInt + (zI SZ 1 x1).toInt) ∧ (∀ a, a ≠ x0 → zI o.2 1 a = zI SZ 1 a))) {x0 : Nat} {x1 : Nat} {x2 : Int32} (hT : ZT S) (hR : RP SZ S) (r_x0 : zK S x0 = 6) (r_x1 : zK S x1 = 6) (r_x2 : (0 : Int) ≤ x2.toInt ∧ x2.toInt ≤ (90000 : Int)) (q0 : x0 ≠ x1) (q1 : (zI SZ 1 x0).toInt + (zI SZ 1 x1).toInt ≤ (rL x0 : Int)) (q2 : (zI S 1 x0).toInt = (zI SZ 1 x0).toInt + x2.toInt) (q3 : ∀ a, a ≠ x0 → zI S 1 a = zI SZ 1 a) (q4 : x2.toInt ≤ (zI SZ 1 x1).toInt) (q5 : rc x0 ≠ 2) (m2 : (90001 - x2.toInt) ≤ (N2 : Int)) : Ok (d_X6_putAll_2s self2 x0 x1 x2 S) (fun o => ZT o.2 ∧ RP SZ o.2 ∧ ((zI o.2 1 x0).toInt = (zI SZ 1 x0).toInt + (zI SZ 1 x1).toInt) ∧ (∀ a, a ≠ x0 → zI o.2 1 a = zI SZ 1 a)) := by
  unfold d_X6_putAll_2s
  have e9 := congrArg Int32.toInt (q3 x1 (fun h => q0 h.symm))
  refine ok_chk r_x1 ?_
  have j1 := J_6_1 hT r_x1
  refine ok_if (fun c2 => ?_) (fun c2 => ?_)
  ·
    replace c2 := ti_leP (a := (zI S 1 x1)) (b := x2) c2 rfl rfl
    exact ok_ret ⟨hT, hR, (by show (zI S 1 x0).toInt = (zI SZ 1 x0).toInt + (zI SZ 1 x1).toInt; have z : (0 : Int32).toInt = 0 := rfl; omega), (by show ∀ a, a ≠ x0 → zI S 1 a = zI SZ 1 a; exact q3)⟩
  ·
    replace c2 := ti_leN (a := (zI S 1 x1)) (b := x2) c2 rfl rfl
    refine ok_chk r_x1 ?_
    obtain ⟨r1, h_r1, p_r1⟩ := roz (t_f_X6_at (x0 := x1) (x1 := x2) hT r_x1)
    dsimp only at p_r1
    refine ok_calR h_r1 ?_
    refine ok_chk ⟨rfl, rfl⟩ ?_
    refine ok_chk r_x0 ?_
    have j3 := J_6_1 hT r_x0
    obtain ⟨⟨r3, S4⟩, h_r3, T_S4, B_S4, p_r3_0, p_r3_1⟩ := t_d_X6_put (x0 := x0) (x1 := r1) (SZ := S) hT (rp_0 S) r_x0 (by omega) (by omega) q5
    replace T_S4 : ZT S4 := T_S4
    replace B_S4 : RP S S4 := B_S4
    have R_S4 : RP SZ S4 := rp_t hR B_S4
    dsimp only at p_r3_0 p_r3_1
    refine ok_cal2R h_r3 ?_
    have g_S4 := (fz_X6_put h_r3 hT.2.2.2.2.1).2.2
    refine ok_bnd (fun v7 e4 => ?_)
    have t_v7 : v7.toInt = x2.toInt + 1 := ti_add e4 rfl (show (1 : Int32).toInt = 1 from rfl) (by omega) (by omega)
    have j5 := J_6_1 T_S4 ((g_S4 x0 (lt18 r_x0 (by decide))).1.trans r_x0)
    exact hself2 x0 x1 v7 S4 T_S4 R_S4 ((g_S4 x0 (lt18 r_x0 (by decide))).1.trans r_x0) ((g_S4 x1 (lt18 r_x1 (by decide))).1.trans r_x1) (by omega) q0 q1 (by omega) (fun a9 h9 => (p_r3_1 a9 h9).trans (q3 a9 h9)) (by omega) q5 (by omega)
theorem t_d_X6_putAll_2 {SZ : ZS} : ∀ (n : Nat) (x0 : Nat) (x1 : Nat) (x2 : Int32) (S : ZS), ZT S → RP SZ S → (zK S x0 = 6) → (zK S x1 = 6) → ((0 : Int) ≤ x2.toInt ∧ x2.toInt ≤ (90000 : Int)) → (x0 ≠ x1) → ((zI SZ 1 x0).toInt + (zI SZ 1 x1).toInt ≤ (rL x0 : Int)) → ((zI S 1 x0).toInt = (zI SZ 1 x0).toInt + x2.toInt) → (∀ a, a ≠ x0 → zI S 1 a = zI SZ 1 a) → (x2.toInt ≤ (zI SZ 1 x1).toInt) → (rc x0 ≠ 2) → (90001 - x2.toInt) < (n : Int) → Ok (d_X6_putAll_2  n x0 x1 x2 S) (fun o => ZT o.2 ∧ RP SZ o.2 ∧ ((zI o.2 1 x0).toInt = (zI SZ 1 x0).toInt + (zI SZ 1 x1).toInt) ∧ (∀ a, a ≠ x0 → zI o.2 1 a = zI SZ 1 a)) := by
  intro n
  induction n with
  | zero => intro x0 x1 x2 S hT hR g0 g1 g2 g3 g4 g5 g6 g7 g8  hm; exfalso; omega
  | succ n ih =>
    intro x0 x1 x2 S hT hR g0 g1 g2 g3 g4 g5 g6 g7 g8  hm
    exact t_d_X6_putAll_2s (N2 := n)  ih hT hR g0 g1 g2 g3 g4 g5 g6 g7 g8  (by omega)
theorem t_d_X6_putAll_0 {SZ S : ZS} {x0 : Nat} {x1 : Nat} (hT : ZT S) (hR : RP SZ S) (r_x0 : zK S x0 = 6) (r_x1 : zK S x1 = 6) (q0 : SZ = S) (q1 : x0 ≠ x1) (q2 : (zI SZ 1 x0).toInt + (zI SZ 1 x1).toInt ≤ (rL x0 : Int)) (q3 : rc x0 ≠ 2) : Ok (d_X6_putAll_0 x0 x1 S) (fun o => ZT o.2 ∧ RP SZ o.2 ∧ ((zI o.2 1 x0).toInt = (zI SZ 1 x0).toInt + (zI SZ 1 x1).toInt) ∧ (∀ a, a ≠ x0 → zI o.2 1 a = zI SZ 1 a)) := by
  unfold d_X6_putAll_0
  have j9 := J_6_1 hT r_x1
  have j6 := J_6_1 hT r_x0
  exact t_d_X6_putAll_2   mFuel x0 x1 (0 : Int32) S hT hR r_x0 r_x1 (by decide) q1 q2 (by rw [q0]; have z0 : (0 : Int32).toInt = 0 := rfl; omega) (by rw [q0]; exact fun _ _ => rfl) (by rw [q0]; have z : (0 : Int32).toInt = 0 := rfl; omega) q3 (by show _ < ((200000 : Nat) : Int); have z0 : (0 : Int32).toInt = 0 := rfl; omega)
theorem t_d_X6_putAll {SZ S : ZS} {x0 : Nat} {x1 : Nat} (hT : ZT S) (hR : RP SZ S) (r_x0 : zK S x0 = 6) (r_x1 : zK S x1 = 6) (q0 : SZ = S) (q1 : x0 ≠ x1) (q2 : (zI SZ 1 x0).toInt + (zI SZ 1 x1).toInt ≤ (rL x0 : Int)) (q3 : rc x0 ≠ 2) : Ok (d_X6_putAll x0 x1 S) (fun o => ZT o.2 ∧ RP SZ o.2 ∧ ((zI o.2 1 x0).toInt = (zI SZ 1 x0).toInt + (zI SZ 1 x1).toInt) ∧ (∀ a, a ≠ x0 → zI o.2 1 a = zI SZ 1 a)) := t_d_X6_putAll_0 hT hR r_x0 r_x1 q0 q1 q2 q3
