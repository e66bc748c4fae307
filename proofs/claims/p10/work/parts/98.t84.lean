section CLG
variable {I : Nat → Int32} {A : Nat → Nat → Int32} {g : Nat} {o : Int32 × MS} {x1 : Int32}
/-- the reference's game begins anew -/
theorem v_clearGame (hg : g ≤ 1) (h1 : x1.toInt = (g : Int)) (hf : f_clearGame x1 I A = some o) : o.2.1 = I ∧ TRr o.2.2 g T00 ∧ TGr o.2.2 (g : Int) [] := by
  have hf : f_clearGame_0 x1 I A = some o := hf
  have xn : x1.toNatClampNeg = g := cl_n h1
  unfold f_clearGame_0 at hf
  obtain ⟨-, hf⟩ := m_chkE hf
  obtain ⟨A1, e1, hf⟩ := m_bndE hf
  obtain ⟨-, hf⟩ := m_chkE hf
  obtain ⟨A2, e2, hf⟩ := m_bndE hf
  obtain ⟨-, hf⟩ := m_chkE hf
  obtain ⟨A3, e3, hf⟩ := m_bndE hf
  obtain ⟨v4, e4, hf⟩ := m_bndE hf
  have t4 : v4.toInt = 301 * x1.toInt := ti_mul e4 (show (301 : Int32).toInt = 301 from rfl) rfl (by omega) (by omega)
  have i4 : v4.toNatClampNeg = 301 * g := cl_n (by omega)
  obtain ⟨⟨r5, Ic5, Ac5⟩, h_r5, hf⟩ := m_clE hf
  dsimp only at hf
  have h5 : f_clearNode_0 v4 I A3 = some (r5, Ic5, Ac5) := h_r5
  unfold f_clearNode_0 at h5
  obtain ⟨-, h5⟩ := m_chkE h5
  obtain ⟨B1, n1, h5⟩ := m_bndE h5
  obtain ⟨-, h5⟩ := m_chkE h5
  obtain ⟨B2, n2, h5⟩ := m_bndE h5
  obtain ⟨-, h5⟩ := m_chkE h5
  obtain ⟨B3, n3, h5⟩ := m_bndE h5
  obtain ⟨-, h5⟩ := m_chkE h5
  obtain ⟨B4, n4, h5⟩ := m_bndE h5
  have i5 := Option.some.inj h5
  have j1 : I = Ic5 := congrArg (fun z => z.2.1) i5
  have j2 : B4 = Ac5 := congrArg (fun z => z.2.2) i5
  rw [← j1, ← j2] at hf
  obtain ⟨v6, e6, hf⟩ := m_bndE hf
  have t6 : v6.toInt = 301 * x1.toInt := ti_mul e6 (show (301 : Int32).toInt = 301 from rfl) rfl (by omega) (by omega)
  have i6 : v6.toNatClampNeg = 301 * g := cl_n (by omega)
  obtain ⟨-, hf⟩ := m_chkE hf
  obtain ⟨A7, e7, hf⟩ := m_bndE hf
  obtain ⟨v8, e8, hf⟩ := m_bndE hf
  have t8 : v8.toInt = 301 * x1.toInt := ti_mul e8 (show (301 : Int32).toInt = 301 from rfl) rfl (by omega) (by omega)
  have i8 : v8.toNatClampNeg = 301 * g := cl_n (by omega)
  obtain ⟨-, hf⟩ := m_chkE hf
  obtain ⟨A9, e9, hf⟩ := m_bndE hf
  rw [xn] at e1 e2 e3
  rw [i4] at n1 n2 n3 n4
  rw [i6] at e7
  rw [i8] at e9
  cases hf
  have k7 : A9 7 g = 0 := by rw [e9, va_up_ne _ _ (by decide), e7, va_up_ne _ _ (by decide), n4, va_up_ne _ _ (by decide), n3, va_up_ne _ _ (by decide), n2, va_up_ne _ _ (by decide), n1, va_up_ne _ _ (by decide), e3, va_up_ne _ _ (by decide), e2, va_up_ne _ _ (by decide), e1, va_up_self, upd_self]
  have k8 : A9 8 (301 * g) = -1 := by rw [e9, va_up_ne _ _ (by decide), e7, va_up_self, upd_self]
  have k9 : A9 9 (301 * g) = -1 := by rw [e9, va_up_self, upd_self]
  have k10 : A9 10 (301 * g) = -1 := by rw [e9, va_up_ne _ _ (by decide), e7, va_up_ne _ _ (by decide), n4, va_up_ne _ _ (by decide), n3, va_up_ne _ _ (by decide), n2, va_up_ne _ _ (by decide), n1, va_up_self, upd_self]
  have k12 : A9 12 (301 * g) = 0 := by rw [e9, va_up_ne _ _ (by decide), e7, va_up_ne _ _ (by decide), n4, va_up_ne _ _ (by decide), n3, va_up_self, upd_self]
  have k14 : A9 14 (301 * g) = 0 := by rw [e9, va_up_ne _ _ (by decide), e7, va_up_ne _ _ (by decide), n4, va_up_self, upd_self]
  have k18 : A9 18 g = 0 := by rw [e9, va_up_ne _ _ (by decide), e7, va_up_ne _ _ (by decide), n4, va_up_ne _ _ (by decide), n3, va_up_ne _ _ (by decide), n2, va_up_ne _ _ (by decide), n1, va_up_ne _ _ (by decide), e3, va_up_ne _ _ (by decide), e2, va_up_self, upd_self]
  have k11 : A9 11 (301 * g) = -1 := by rw [e9, va_up_ne _ _ (by decide), e7, va_up_ne _ _ (by decide), n4, va_up_ne _ _ (by decide), n3, va_up_ne _ _ (by decide), n2, va_up_self, upd_self]
  refine ⟨rfl, ⟨⟨?_, ?_⟩, fun p hp => ?_, fun k hk => ?_⟩, ?_, Nat.zero_le _, fun i i0 i1 => absurd (show i < 0 from i1) (by omega)⟩
  · show (A9 7 g).toInt.toNat = 0
    rw [k7]; rfl
  · show (A9 11 (301 * g + 0)).toInt = -1
    rw [Nat.add_zero, k11]; rfl
  · have p0 : p = 0 := Nat.le_zero.1 hp
    subst p0
    refine ⟨?_, List.nodup_nil, fun k => ⟨(fun hk => by cases hk), fun ⟨k1, k2, _⟩ => absurd (show k ≤ 0 from k2) (by omega)⟩⟩
    show (A9 10 (301 * g + 0)).toInt = -1
    rw [Nat.add_zero, k10]; rfl
  · have k0 : k = 0 := Nat.le_zero.1 hk
    subst k0
    refine ⟨⟨?_, ?_⟩, ⟨?_, fun i hi => absurd hi (Nat.not_lt_zero _)⟩, ⟨?_, fun i hi => absurd hi (Nat.not_lt_zero _)⟩⟩
    · show (A9 8 (301 * g + 0)).toInt = -1
      rw [Nat.add_zero, k8]; rfl
    · show (A9 9 (301 * g + 0)).toInt = -1
      rw [Nat.add_zero, k9]; rfl
    · show (A9 12 (301 * g + 0)).toInt = 0
      rw [Nat.add_zero, k12]; rfl
    · show (A9 14 (301 * g + 0)).toInt = 0
      rw [Nat.add_zero, k14]; rfl
  · show (A9 18 (g : Int).toNat).toInt = 0
    rw [Int.toNat_natCast, k18]; rfl
theorem us_23 (hg : g ≤ 1) (h1 : x1.toInt = (g : Int)) : ∀ (n : Nat) (x2 : Int32) (A : Nat → Nat → Int32), (0 ≤ x2.toInt ∧ x2.toInt ≤ 8) → mR A = (fun s => if s % 8 < x2.toInt then m00 s else 0) → f_usual_23 n x1 x2 I A = some o → SPp o.2.2 g st00 := by
  intro n
  induction n with
  | zero => intro x2 A _ _ hf; cases hf
  | succ n ih =>
    intro x2 A hx hm hf
    have hf : f_usual_23s (f_usual_23 n) x1 x2 I A = some o := hf
    have go : ∀ t0 : Int32, x2.toInt < 8 → t0.toInt = fr0 x2.toInt → f_usual_83 (f_usual_23 n) x1 x2 t0 I A = some o → SPp o.2.2 g st00 := fun t0 hlt ht hf => by
      have f2 := fr0_v (s := x2.toInt) (by omega) hlt
      unfold f_usual_83 at hf
      obtain ⟨-, hf⟩ := m_chkE hf
      obtain ⟨A1, e_A1, hf⟩ := m_bndE hf
      obtain ⟨v2, e_v2, hf⟩ := m_bndE hf
      have t_v2 : v2.toInt = 8 + x2.toInt := ti_add e_v2 (show (8 : Int32).toInt = 8 from rfl) rfl (by omega) (by omega)
      obtain ⟨-, hf⟩ := m_chkE hf
      obtain ⟨A3, e_A3, hf⟩ := m_bndE hf
      obtain ⟨v4, e_v4, hf⟩ := m_bndE hf
      have t_v4 : v4.toInt = 48 + x2.toInt := ti_add e_v4 (show (48 : Int32).toInt = 48 from rfl) rfl (by omega) (by omega)
      obtain ⟨-, hf⟩ := m_chkE hf
      obtain ⟨A5, e_A5, hf⟩ := m_bndE hf
      obtain ⟨v6, e_v6, hf⟩ := m_bndE hf
      have t_v6 : v6.toInt = 56 + x2.toInt := ti_add e_v6 (show (56 : Int32).toInt = 56 from rfl) rfl (by omega) (by omega)
      obtain ⟨v7, e_v7, hf⟩ := m_bndE hf
      have t_v7 : v7.toInt = t0.toInt + 8 := ti_add e_v7 rfl (show (8 : Int32).toInt = 8 from rfl) (by omega) (by omega)
      obtain ⟨-, hf⟩ := m_chkE hf
      obtain ⟨A8, e_A8, hf⟩ := m_bndE hf
      obtain ⟨v9, e_v9, hf⟩ := m_bndE hf
      have t_v9 : v9.toInt = x2.toInt + 1 := ti_add e_v9 rfl (show (1 : Int32).toInt = 1 from rfl) (by omega) (by omega)
      have m1 := mR_up e_A1 (by omega) (by omega)
      have m3 := mR_up e_A3 (by omega) (by omega)
      have m5 := mR_up e_A5 (by omega) (by omega)
      have m8 := mR_up e_A8 (by omega) (by omega)
      refine ih v9 A8 (by omega) ?_ hf
      rw [m8, m5, m3, m1, hm, t_v9, t_v7, t_v6, t_v4, t_v2, ht, show (9 : Int32).toInt = 9 from rfl, show (1 : Int32).toInt = 1 from rfl, show (8 : Int) + x2.toInt = x2.toInt + 8 by omega, show (48 : Int) + x2.toInt = x2.toInt + 48 by omega, show (56 : Int) + x2.toInt = x2.toInt + 56 by omega]
      exact su_m hx.1 hlt
    unfold f_usual_23s at hf
    rcases m_ifE hf with ⟨c1, hf⟩ | ⟨c1, hf⟩
    · replace c1 := ti_leP (a := (8 : Int32)) (b := x2) c1 (show (8 : Int32).toInt = 8 from rfl) rfl
      obtain ⟨I1, e1, hf⟩ := m_bndE hf
      obtain ⟨I2, e2, hf⟩ := m_bndE hf
      obtain ⟨I3, e3, hf⟩ := m_bndE hf
      obtain ⟨I4, e4, hf⟩ := m_bndE hf
      obtain ⟨I5, e5, hf⟩ := m_bndE hf
      obtain ⟨⟨r6, Ic6, Ac6⟩, h_r6, hf⟩ := m_clE hf
      dsimp only at hf
      have mm : mR A = m00 := by
        rw [hm]
        funext s
        rw [if_pos (by omega)]
      obtain ⟨-, a2, -⟩ := v_start (g := (g : Int)) (by omega) h1 mm h_r6
      dsimp only at a2
      cases hf
      have j25 : (I5 25).toInt = 0 := by rw [e5, upd_ne (by decide), e4, upd_ne (by decide), e3, upd_ne (by decide), e2, upd_ne (by decide), e1, upd_self]; rfl
      have j26 : (I5 26).toInt = 15 := by rw [e5, upd_ne (by decide), e4, upd_ne (by decide), e3, upd_ne (by decide), e2, upd_self]; rfl
      have j27 : (I5 27).toInt = -1 := by rw [e5, upd_ne (by decide), e4, upd_ne (by decide), e3, upd_self]; rfl
      have j29 : (I5 29).toInt = 1 := by rw [e5, upd_self]; rfl
      rw [j25, j26, j27, j29] at a2
      exact ⟨a2, fun s hs => m00_x (by omega)⟩
    · replace c1 := ti_leN (a := (8 : Int32)) (b := x2) c1 (show (8 : Int32).toInt = 8 from rfl) rfl
      rcases m_ifE hf with ⟨c2, hf⟩ | ⟨d0, hf⟩
      · replace c2 := ti_eqP (a := x2) (b := (0 : Int32)) c2 rfl (show (0 : Int32).toInt = 0 from rfl)
        unfold f_usual_39 at hf
        exact go 4 (by omega) (by rw [c2]; decide) hf
      replace d0 := ti_eqN (a := x2) (b := (0 : Int32)) d0 rfl (show (0 : Int32).toInt = 0 from rfl)
      rcases m_ifE hf with ⟨c2, hf⟩ | ⟨d7, hf⟩
      · replace c2 := ti_eqP (a := x2) (b := (7 : Int32)) c2 rfl (show (7 : Int32).toInt = 7 from rfl)
        unfold f_usual_39 at hf
        exact go 4 (by omega) (by rw [c2]; decide) hf
      replace d7 := ti_eqN (a := x2) (b := (7 : Int32)) d7 rfl (show (7 : Int32).toInt = 7 from rfl)
      rcases m_ifE hf with ⟨c2, hf⟩ | ⟨d1, hf⟩
      · replace c2 := ti_eqP (a := x2) (b := (1 : Int32)) c2 rfl (show (1 : Int32).toInt = 1 from rfl)
        unfold f_usual_54 at hf
        exact go 2 (by omega) (by rw [c2]; decide) hf
      replace d1 := ti_eqN (a := x2) (b := (1 : Int32)) d1 rfl (show (1 : Int32).toInt = 1 from rfl)
      rcases m_ifE hf with ⟨c2, hf⟩ | ⟨d6, hf⟩
      · replace c2 := ti_eqP (a := x2) (b := (6 : Int32)) c2 rfl (show (6 : Int32).toInt = 6 from rfl)
        unfold f_usual_54 at hf
        exact go 2 (by omega) (by rw [c2]; decide) hf
      replace d6 := ti_eqN (a := x2) (b := (6 : Int32)) d6 rfl (show (6 : Int32).toInt = 6 from rfl)
      rcases m_ifE hf with ⟨c2, hf⟩ | ⟨d2, hf⟩
      · replace c2 := ti_eqP (a := x2) (b := (2 : Int32)) c2 rfl (show (2 : Int32).toInt = 2 from rfl)
        unfold f_usual_68 at hf
        exact go 3 (by omega) (by rw [c2]; decide) hf
      replace d2 := ti_eqN (a := x2) (b := (2 : Int32)) d2 rfl (show (2 : Int32).toInt = 2 from rfl)
      rcases m_ifE hf with ⟨c2, hf⟩ | ⟨d5, hf⟩
      · replace c2 := ti_eqP (a := x2) (b := (5 : Int32)) c2 rfl (show (5 : Int32).toInt = 5 from rfl)
        unfold f_usual_68 at hf
        exact go 3 (by omega) (by rw [c2]; decide) hf
      replace d5 := ti_eqN (a := x2) (b := (5 : Int32)) d5 rfl (show (5 : Int32).toInt = 5 from rfl)
      rcases m_ifE hf with ⟨c2, hf⟩ | ⟨d3, hf⟩
      · replace c2 := ti_eqP (a := x2) (b := (3 : Int32)) c2 rfl (show (3 : Int32).toInt = 3 from rfl)
        exact go 5 (by omega) (by rw [c2]; decide) hf
      replace d3 := ti_eqN (a := x2) (b := (3 : Int32)) d3 rfl (show (3 : Int32).toInt = 3 from rfl)
      exact go 6 (by omega) (by rw [show x2.toInt = 4 by omega]; decide) hf
theorem v_usual (hg : g ≤ 1) (h1 : x1.toInt = (g : Int)) (hf : f_usual x1 I A = some o) : SPp o.2.2 g st00 := by
  have hf : f_usual_2 mFuel x1 0 I A = some o := hf
  have key : ∀ (n : Nat) (x2 : Int32) (A : Nat → Nat → Int32), (0 ≤ x2.toInt ∧ x2.toInt ≤ 64) → (∀ s, 0 ≤ s → s < x2.toInt → mR A s = 0) → f_usual_2 n x1 x2 I A = some o → SPp o.2.2 g st00 := by
    intro n
    induction n with
    | zero => intro x2 A _ _ hf; cases hf
    | succ n ih =>
      intro x2 A hx hm hf
      have hf : f_usual_2s (f_usual_2 n) x1 x2 I A = some o := hf
      unfold f_usual_2s at hf
      rcases m_ifE hf with ⟨c1, hf⟩ | ⟨c1, hf⟩
      · skip
        replace c1 := ti_leP (a := (64 : Int32)) (b := x2) c1 (show (64 : Int32).toInt = 64 from rfl) rfl
        refine us_23 hg h1 mFuel 0 A (by decide) ?_ hf
        funext s
        rw [if_neg (show ¬ s % 8 < (0 : Int32).toInt by have z : (0 : Int32).toInt = 0 := rfl; omega)]
        by_cases e : 0 ≤ s ∧ s < 64
        · exact hm s e.1 (by omega)
        · unfold mR; rw [if_neg e]
      · skip
        replace c1 := ti_leN (a := (64 : Int32)) (b := x2) c1 (show (64 : Int32).toInt = 64 from rfl) rfl
        obtain ⟨-, hf⟩ := m_chkE hf
        obtain ⟨A1, e_A1, hf⟩ := m_bndE hf
        obtain ⟨v2, e_v2, hf⟩ := m_bndE hf
        have t_v2 : v2.toInt = x2.toInt + 1 := ti_add e_v2 rfl (show (1 : Int32).toInt = 1 from rfl) (by omega) (by omega)
        have m1 := mR_up e_A1 (by omega) (by omega)
        refine ih v2 A1 (by omega) (fun s s0 s1 => ?_) hf
        rw [m1]
        by_cases e : s = x2.toInt
        · rw [e, up_s]; rfl
        · rw [up_n e]; exact hm s s0 (by omega)
  exact key mFuel 0 A (by decide) (fun s s0 s1 => by have z : (0 : Int32).toInt = 0 := rfl; omega) hf
end CLG
