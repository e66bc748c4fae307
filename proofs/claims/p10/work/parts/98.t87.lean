section SAC
variable {S S' : ZS} {g g' : Nat} {ch : Int → Int} {N : Int} {x1 : Int32}
theorem nd_or (hC : CG S) (hg : g = 35 ∨ g = 99) : nd S g x1 = g + 3 ∨ ∃ i, zB S (g + 5) i = some (nd S g x1) := by
  obtain ⟨⟨-, -, p1, p2, -⟩, -⟩ := fx_g hC.2.2.1 hg
  unfold nd
  rw [p1, p2]
  by_cases c : x1 ≤ 0 ∨ zI S 3 g < x1
  · rw [if_pos c]; exact Or.inl rfl
  · rw [if_neg c]
    show (zB S (g + 5) x1.toNatClampNeg).getD (g + 3) = g + 3 ∨ ∃ i, zB S (g + 5) i = some ((zB S (g + 5) x1.toNatClampNeg).getD (g + 3))
    cases h : zB S (g + 5) x1.toNatClampNeg with
    | none => exact Or.inl rfl
    | some c => exact Or.inr ⟨_, h⟩
theorem nd_fx (hC : CG S) (hg : g = 35 ∨ g = 99) : zK S (nd S g x1) = 4 ∧ zP S 6 (nd S g x1) = some (nd S g x1 + 1) ∧ zK S (nd S g x1 + 1) = 6 ∧ (nd S g x1 = g + 3 ∨ 109 ≤ nd S g x1) := by
  obtain ⟨-, ⟨-, -, k3, k4, -⟩, -, p6⟩ := fx_g hC.2.2.1 hg
  rcases nd_or (x1 := x1) hC hg with e | ⟨i, e⟩
  · rw [e]; exact ⟨k3, p6, k4, Or.inl rfl⟩
  · obtain ⟨a1, a2, a3, a4⟩ := (gm_of hC hg).1 i _ e
    exact ⟨a2, a3, a4, Or.inr a1⟩
/-- the class's say -/
theorem p_say {o : (Nat × Int32) × ZS} (hC : CG S) (hg : g' = 35 ∨ g' = 99) (p7 : zP S 7 1 = some g') (hx : TXc S ch N) (hf : d_X11_say 1 S = some o) : (SYo ch N ∧ o.1.1 = 0 ∧ o.1.2.toInt = N ∧ CG o.2 ∧ TXc o.2 (fun _ => 0) 0 ∧ FR (fun a => a = 2 ∨ a = nd S g' (zI S 8 1) + 1) S o.2 ∧ ∃ w, RWL o.2 (nd S g' (zI S 8 1) + 1) w ∧ (w.length : Int) = N ∧ ∀ i, wA w i = ch i) ∨ (¬ SYo ch N ∧ o.1.1 = 1 ∧ o.2 = zsQ S) := by
  have hf : d_X11_say_0 1 S = some o := hf
  have p0 : zP S 0 1 = some 2 := fx_p hC.2.2.1 (by decide)
  have k2 : zK S 2 = 6 := fx_k hC.2.2.1 (by decide) (by decide)
  obtain ⟨w, hw, hl, hcw⟩ := tx_l hC hx
  obtain ⟨hc, hN, hn, hcb⟩ := id hx
  obtain ⟨kc, pc, kc1, cc⟩ := nd_fx (x1 := zI S 8 1) hC hg
  obtain ⟨⟨kg, -⟩, -⟩ := fx_g hC.2.2.1 hg
  have no : ¬ SYo ch N → d_X11_say_43 S = some o → (SYo ch N ∧ o.1.1 = 0 ∧ o.1.2.toInt = N ∧ CG o.2 ∧ TXc o.2 (fun _ => 0) 0 ∧ FR (fun a => a = 2 ∨ a = nd S g' (zI S 8 1) + 1) S o.2 ∧ ∃ w, RWL o.2 (nd S g' (zI S 8 1) + 1) w ∧ (w.length : Int) = N ∧ ∀ i, wA w i = ch i) ∨ (¬ SYo ch N ∧ o.1.1 = 1 ∧ o.2 = zsQ S) := fun hno hf => by
    unfold d_X11_say_43 at hf
    cases hf
    exact Or.inr ⟨hno, rfl, rfl⟩
  unfold d_X11_say_0 at hf
  obtain ⟨-, hf⟩ := m_chkE hf
  replace hf := m_calY hf p0
  obtain ⟨-, hf⟩ := m_chkE hf
  obtain ⟨r2, h_r2, hf⟩ := m_calR hf (fun _ h => ro_X6_size h)
  dsimp only at hf
  have q2 : r2.toInt = N := by
    have h2 : f_X6_size_0 2 S = some (r2, S) := h_r2
    unfold f_X6_size_0 at h2
    obtain ⟨-, h2⟩ := m_chkE h2
    have := congrArg Prod.fst (Option.some.inj h2)
    dsimp only at this
    rw [← this]; exact hN
  obtain ⟨-, hf⟩ := m_chkE hf
  rcases m_ifE hf with ⟨c1, hf⟩ | ⟨c1, hf⟩
  · replace c1 := ti_ltP (a := (200 : Int32)) (b := r2) c1 (show (200 : Int32).toInt = 200 from rfl) rfl
    exact no (fun h => by have := h.1; omega) hf
  · replace c1 := ti_ltN (a := (200 : Int32)) (b := r2) c1 (show (200 : Int32).toInt = 200 from rfl) rfl
    obtain ⟨-, hf⟩ := m_chkE hf
    replace hf := m_calY hf p0
    obtain ⟨-, hf⟩ := m_chkE hf
    obtain ⟨⟨r4, S4⟩, h_r4, hf⟩ := m_calE hf
    dsimp only at hf
    obtain ⟨e4, x4⟩ := p_ixOf (x1 := 125) (x2 := 0) (by rw [hN]; omega) (by decide) h_r4
    dsimp only at e4 x4
    rw [hc, hN, show (125 : Int32).toInt = 125 from rfl, show (0 : Int32).toInt = 0 from rfl] at x4
    rw [e4] at hf
    obtain ⟨-, hf⟩ := m_chkE hf
    rcases m_ifE hf with ⟨c2, hf⟩ | ⟨c2, hf⟩
    · replace c2 := ti_ltP (a := r4) (b := r2) c2 rfl rfl
      refine no (fun h => ?_) hf
      have := (h.2 r4.toInt x4.1 (by omega)).1
      rcases x4.2.2.1 with y | y
      · omega
      · exact this y
    · replace c2 := ti_ltN (a := r4) (b := r2) c2 rfl rfl
      obtain ⟨-, hf⟩ := m_chkE hf
      replace hf := m_calY hf p0
      obtain ⟨-, hf⟩ := m_chkE hf
      obtain ⟨⟨r6, S6⟩, h_r6, hf⟩ := m_calE hf
      dsimp only at hf
      obtain ⟨e6, x6⟩ := p_ixOf (x1 := 10) (x2 := 0) (by rw [hN]; omega) (by decide) h_r6
      dsimp only at e6 x6
      rw [hc, hN, show (10 : Int32).toInt = 10 from rfl, show (0 : Int32).toInt = 0 from rfl] at x6
      rw [e6] at hf
      obtain ⟨-, hf⟩ := m_chkE hf
      rcases m_ifE hf with ⟨c3, hf⟩ | ⟨c3, hf⟩
      · replace c3 := ti_leP (a := r2) (b := r6) c3 rfl rfl
        have ok : SYo ch N := ⟨by omega, fun i i0 i1 => ⟨x4.2.1 i i0 (by omega), x6.2.1 i i0 (by omega)⟩⟩
        obtain ⟨-, hf⟩ := m_chkE hf
        replace hf := m_calY hf p7
        obtain ⟨-, hf⟩ := m_chkE hf
        obtain ⟨-, hf⟩ := m_chkE hf
        obtain ⟨⟨r8, S8⟩, h_r8, hf⟩ := m_calE hf
        dsimp only at hf
        obtain ⟨e8, -, q8⟩ := ok_of (t_f_X1_at (x1 := zI S 8 1) hC.1 kg) h_r8
        dsimp only at e8 q8
        rw [e8, q8] at hf
        obtain ⟨-, hf⟩ := m_chkE hf
        obtain ⟨-, hf⟩ := m_chkE hf
        replace hf := m_calY hf pc
        obtain ⟨-, hf⟩ := m_chkE hf
        replace hf := m_calY hf p0
        obtain ⟨-, hf⟩ := m_chkE hf
        obtain ⟨⟨r12, S13⟩, h_r12, hf⟩ := m_cal2E hf
        dsimp only at hf
        obtain ⟨v, hv⟩ := rwl_ex hC.1 kc1
        have ncr : rc (nd S g' (zI S 8 1) + 1) ≠ 2 := by
          rcases cc with e | e
          · rw [e]
            rcases hg with ee | ee <;> rw [ee] <;> decide
          · rw [rc_new (by omega)]; decide
        have n2 : (2 : Nat) ≠ nd S g' (zI S 8 1) + 1 := by omega
        obtain ⟨T13, R13, W13⟩ := p_copy200 hC.1 n2 ncr (by omega) (fun i => by rw [hcw i]; have := hcb i; omega) hw kc1 k2 (by rw [hv.1]; omega) h_r12
        dsimp only at T13 R13 W13
        have F13 := fr_r R13 kc1
        have Z13 : TZ S13 := tz_k hC.1 hC.2.1 F13 (fun a _ e => by rw [e, kc1]; exact ⟨by decide, by decide, fun h => absurd h (by decide)⟩)
        have C13 : CG S13 := cg_w hC T13 Z13 F13 (by omega) (by omega) (by omega) (by omega)
        have e2 := fr_e F13 (show zK S 2 < 18 by rw [k2]; decide) n2
        have x13 : TXc S13 ch N := ⟨by rw [eqc_rw e2 k2]; exact hc, by rw [e2.2.2.1]; exact hN, hn, hcb⟩
        have p013 : zP S13 0 1 = some 2 := fx_p C13.2.2.1 (by decide)
        obtain ⟨-, hf⟩ := m_chkE hf
        replace hf := m_calY hf p013
        obtain ⟨-, hf⟩ := m_chkE hf
        obtain ⟨⟨r17, S17⟩, h_r17, hf⟩ := m_calE hf
        dsimp only at hf
        obtain ⟨C17, x17, F17⟩ := zt_k2 C13 x13 (by exact ⟨by decide, hn.1⟩) h_r17
        obtain ⟨-, hf⟩ := m_chkE hf
        cases hf
        have kc13 : zK S13 (nd S g' (zI S 8 1) + 1) = 6 := (fr_k F13 (by rw [kc1]; decide)).trans kc1
        refine Or.inl ⟨ok, rfl, q2, C17, ⟨?_, x17.2.1, by decide, fun _ => ⟨Int.le_refl 0, show (0 : Int) ≤ 127 by decide⟩⟩, fr_t (fr_m F13 (fun a _ e => Or.inr e)) (fr_m F17 (fun a _ e => Or.inl e)), w, eqc_rl (fr_e F17 (by rw [kc13]; decide) (fun e => n2 e.symm)) kc13 W13, hl, hcw⟩
        rw [x17.1]
        funext i
        unfold cuF
        have z : (0 : Int32).toInt = 0 := rfl
        by_cases e : i < (0 : Int32).toInt
        · rw [if_pos e, ← hcw i]; exact wA_out (by omega)
        · rw [if_neg e]
      · replace c3 := ti_leN (a := r2) (b := r6) c3 rfl rfl
        refine no (fun h => ?_) hf
        have := (h.2 r6.toInt x6.1 (by omega)).2
        rcases x6.2.2.1 with y | y
        · omega
        · exact this y
end SAC
section SAR
variable {I : Nat → Int32} {A : Nat → Nat → Int32} {ch : Int → Int} {N : Int} {o : Int32 × MS} {x1 x2 : Int32}
theorem sy_102 : ∀ (n : Nat) (x3 : Int32) (A : Nat → Nat → Int32), f_say_102 n x2 x3 I A = some o → o.1 = I 1 ∧ o.2.1 = upd I 1 0 := by
  intro n
  induction n with
  | zero => intro x3 A hf; cases hf
  | succ n ih =>
    intro x3 A hf
    have hf : f_say_102s (f_say_102 n) x2 x3 I A = some o := hf
    unfold f_say_102s at hf
    rcases m_ifE hf with ⟨c, hf⟩ | ⟨c, hf⟩
    · obtain ⟨-, hf⟩ := m_chkE hf
      obtain ⟨A1, e1, hf⟩ := m_bndE hf
      obtain ⟨I2, e2, hf⟩ := m_bndE hf
      obtain ⟨-, hf⟩ := m_chkE hf
      obtain ⟨v3, e3, hf⟩ := m_bndE hf
      cases hf
      exact ⟨by rw [e3, e1, va_up_self, upd_self], e2⟩
    · obtain ⟨v4, -, hf⟩ := m_bndE hf
      obtain ⟨v5, -, hf⟩ := m_bndE hf
      obtain ⟨-, hf⟩ := m_chkE hf
      obtain ⟨v6, -, hf⟩ := m_bndE hf
      obtain ⟨-, hf⟩ := m_chkE hf
      obtain ⟨A7, -, hf⟩ := m_bndE hf
      obtain ⟨v8, -, hf⟩ := m_bndE hf
      exact ih v8 A7 hf
theorem sy_74 {t0 : Int32} (h0 : t0.toInt = 0 ∨ t0.toInt = 1) (hf : f_say_74 t0 I A = some o) : (t0.toInt = 0 ∧ o.1 = I 1 ∧ (o.2.1 0).toInt = 0 ∧ (o.2.1 1).toInt = 0) ∨ (t0.toInt = 1 ∧ o.1.toInt = 0 ∧ (o.2.1 0).toInt = 1 ∧ o.2.1 1 = I 1) := by
  unfold f_say_74 at hf
  obtain ⟨I1, e1, hf⟩ := m_bndE hf
  have j0 : I1 0 = t0 := by rw [e1, upd_self]
  have j1 : I1 1 = I 1 := by rw [e1, upd_ne (by decide)]
  rcases m_ifE hf with ⟨c, hf⟩ | ⟨c, hf⟩
  · replace c := ti_leP (a := I1 0) (b := (0 : Int32)) c rfl (show (0 : Int32).toInt = 0 from rfl)
    rw [j0] at c
    obtain ⟨v2, -, hf⟩ := m_bndE hf
    obtain ⟨v3, -, hf⟩ := m_bndE hf
    obtain ⟨a1, a2⟩ := sy_102 mFuel 0 A hf
    refine Or.inl ⟨by omega, by rw [a1, j1], ?_, by rw [a2, upd_self]; rfl⟩
    rw [a2, upd_ne (by decide), j0]; omega
  · replace c := ti_leN (a := I1 0) (b := (0 : Int32)) c rfl (show (0 : Int32).toInt = 0 from rfl)
    rw [j0] at c
    cases hf
    exact Or.inr ⟨by omega, rfl, by show (I1 0).toInt = 1; rw [j0]; omega, j1⟩
theorem sy_18 (hc : txR I A = ch) (hn : (I 1).toInt = N) (hN : 0 ≤ N ∧ N ≤ 2000) : ∀ (n : Nat) (x1 x2 : Int32), (x1.toInt = 0 ∨ x1.toInt = 1) → (x1.toInt = 1 ↔ N ≤ 200 ∧ ∀ i, 0 ≤ i → i < x2.toInt → ch i ≠ 125 ∧ ch i ≠ 10) → 0 ≤ x2.toInt → x2.toInt ≤ N → f_say_18 n x1 x2 I A = some o → (SYo ch N ∧ o.1 = I 1 ∧ (o.2.1 0).toInt = 0 ∧ (o.2.1 1).toInt = 0) ∨ (¬ SYo ch N ∧ o.1.toInt = 0 ∧ (o.2.1 0).toInt = 1 ∧ o.2.1 1 = I 1) := by
  intro n
  induction n with
  | zero => intro x1 x2 _ _ _ _ hf; cases hf
  | succ n ih =>
    intro x1 x2 h1 hq h20 h21 hf
    have hf : f_say_18s (f_say_18 n) x1 x2 I A = some o := hf
    unfold f_say_18s at hf
    have go : ∀ t0 : Int32, (t0.toInt = 0 ∨ t0.toInt = 1) → x2.toInt < N → (t0.toInt = 1 ↔ N ≤ 200 ∧ ∀ i, 0 ≤ i → i < x2.toInt + 1 → ch i ≠ 125 ∧ ch i ≠ 10) → f_say_57 (f_say_18 n) x2 t0 I A = some o → (SYo ch N ∧ o.1 = I 1 ∧ (o.2.1 0).toInt = 0 ∧ (o.2.1 1).toInt = 0) ∨ (¬ SYo ch N ∧ o.1.toInt = 0 ∧ (o.2.1 0).toInt = 1 ∧ o.2.1 1 = I 1) := fun t0 ht hlt hqt hf => by
      unfold f_say_57 at hf
      obtain ⟨v1, e1, hf⟩ := m_bndE hf
      have t1 : v1.toInt = x2.toInt + 1 := ti_add e1 rfl (show (1 : Int32).toInt = 1 from rfl) (by omega) (by omega)
      exact ih t0 v1 ht (by rw [t1]; exact hqt) (by omega) (by omega) hf
    rcases m_ifE hf with ⟨c1, hf⟩ | ⟨c1, hf⟩
    · replace c1 := ti_leP (a := I 1) (b := x2) c1 rfl rfl
      have e2 : x2.toInt = N := by omega
      rw [e2] at hq
      rcases m_ifE hf with ⟨c2, hf⟩ | ⟨c2, hf⟩
      · replace c2 := ti_eqP (a := x1) (b := (0 : Int32)) c2 rfl (show (0 : Int32).toInt = 0 from rfl)
        rcases sy_74 (t0 := 1) (Or.inr rfl) hf with ⟨a1, -⟩ | ⟨-, a2⟩
        · exact absurd a1 (by decide)
        · exact Or.inr ⟨fun h => by have := hq.2 h; omega, a2⟩
      · replace c2 := ti_eqN (a := x1) (b := (0 : Int32)) c2 rfl (show (0 : Int32).toInt = 0 from rfl)
        rcases sy_74 (t0 := 0) (Or.inl rfl) hf with ⟨-, a2⟩ | ⟨a1, -⟩
        · exact Or.inl ⟨hq.1 (by omega), a2⟩
        · exact absurd a1 (by decide)
    · replace c1 := ti_leN (a := I 1) (b := x2) c1 rfl rfl
      rcases m_ifE hf with ⟨c2, hf⟩ | ⟨c2, hf⟩
      · replace c2 := ti_eqP (a := x1) (b := (0 : Int32)) c2 rfl (show (0 : Int32).toInt = 0 from rfl)
        unfold f_say_56 at hf
        exact go 0 (Or.inl rfl) (by omega) ⟨fun e => absurd e (by decide), fun e => by
          have := hq.2 ⟨e.1, fun i i0 i1 => e.2 i i0 (by omega)⟩
          omega⟩ hf
      · replace c2 := ti_eqN (a := x1) (b := (0 : Int32)) c2 rfl (show (0 : Int32).toInt = 0 from rfl)
        have hq1 := hq.1 (by omega)
        have tx : ∀ v : Int32, v = A 2 x2.toNatClampNeg → v.toInt = ch x2.toInt := fun v e => by
          rw [e, cl_n (n := x2.toInt.toNat) (by omega), ← hc]
          unfold txR
          rw [if_pos ⟨h20, by omega⟩]
        have bad : (ch x2.toInt = 125 ∨ ch x2.toInt = 10) → f_say_56 (f_say_18 n) x2 I A = some o → (SYo ch N ∧ o.1 = I 1 ∧ (o.2.1 0).toInt = 0 ∧ (o.2.1 1).toInt = 0) ∨ (¬ SYo ch N ∧ o.1.toInt = 0 ∧ (o.2.1 0).toInt = 1 ∧ o.2.1 1 = I 1) := fun hb hf => by
          unfold f_say_56 at hf
          exact go 0 (Or.inl rfl) (by omega) ⟨fun e => absurd e (by decide), fun e => by
            have := e.2 x2.toInt h20 (by omega)
            omega⟩ hf
        obtain ⟨-, hf⟩ := m_chkE hf
        obtain ⟨v1, e1, hf⟩ := m_bndE hf
        have t1 := tx v1 e1
        rcases m_ifE hf with ⟨c3, hf⟩ | ⟨c3, hf⟩
        · replace c3 := ti_eqP (a := v1) (b := (125 : Int32)) c3 rfl (show (125 : Int32).toInt = 125 from rfl)
          exact bad (Or.inl (by omega)) hf
        · replace c3 := ti_eqN (a := v1) (b := (125 : Int32)) c3 rfl (show (125 : Int32).toInt = 125 from rfl)
          obtain ⟨-, hf⟩ := m_chkE hf
          obtain ⟨v2, e2, hf⟩ := m_bndE hf
          have t2 := tx v2 e2
          rcases m_ifE hf with ⟨c4, hf⟩ | ⟨c4, hf⟩
          · replace c4 := ti_eqP (a := v2) (b := (10 : Int32)) c4 rfl (show (10 : Int32).toInt = 10 from rfl)
            exact bad (Or.inr (by omega)) hf
          · replace c4 := ti_eqN (a := v2) (b := (10 : Int32)) c4 rfl (show (10 : Int32).toInt = 10 from rfl)
            exact go 1 (Or.inr rfl) (by omega) ⟨fun _ => ⟨hq1.1, fun i i0 i1 => by
              by_cases e : i = x2.toInt
              · rw [e]; omega
              · exact hq1.2 i i0 (by omega)⟩, fun _ => rfl⟩ hf
/-- the reference's say -/
theorem v_say (hc : txR I A = ch) (hn : (I 1).toInt = N) (hN : 0 ≤ N ∧ N ≤ 2000) (hf : f_say I A = some o) : (SYo ch N ∧ o.1 = I 1 ∧ (o.2.1 0).toInt = 0 ∧ (o.2.1 1).toInt = 0) ∨ (¬ SYo ch N ∧ o.1.toInt = 0 ∧ (o.2.1 0).toInt = 1 ∧ o.2.1 1 = I 1) := by
  have hf : f_say_0 I A = some o := hf
  have z : (0 : Int32).toInt = 0 := rfl
  unfold f_say_0 at hf
  rcases m_ifE hf with ⟨c1, hf⟩ | ⟨c1, hf⟩
  · replace c1 := ti_ltP (a := (200 : Int32)) (b := I 1) c1 (show (200 : Int32).toInt = 200 from rfl) rfl
    unfold f_say_15 at hf
    exact sy_18 hc hn hN mFuel 0 0 (Or.inl rfl) ⟨fun e => absurd e (by decide), fun e => by have := e.1; omega⟩ (by decide) (by omega) hf
  · replace c1 := ti_ltN (a := (200 : Int32)) (b := I 1) c1 (show (200 : Int32).toInt = 200 from rfl) rfl
    unfold f_say_15 at hf
    exact sy_18 hc hn hN mFuel 1 0 (Or.inr rfl) ⟨fun _ => ⟨by omega, fun i i0 i1 => by omega⟩, fun _ => rfl⟩ (by decide) (by omega) hf
end SAR
