noncomputable def bys (x : Int64) : Nat → List Int
  | 0 => []
  | k + 1 => bys x k ++ [(tyB x (Int32.ofInt (k : Int))).toInt]
theorem bys_l {x : Int64} : ∀ k, (bys x k).length = k
  | 0 => rfl
  | k + 1 => by
    show (bys x k ++ [_]).length = k + 1
    rw [List.length_append, bys_l k]; rfl
/-- a byte that may stand in a text -/
noncomputable def GBy (x : Int64) (y : Int32) : Prop := (tyB x y).toInt = 10 ∨ (32 ≤ (tyB x y).toInt ∧ (tyB x y).toInt ≤ 126)
noncomputable def GBs (x : Int64) (n : Int) : Prop := ∀ y : Int32, 0 ≤ y.toInt → y.toInt < n → GBy x y
/-- type may: N signs stand, n come -/
noncomputable def TYo (x : Int64) (n N : Int) : Prop := (1 ≤ n ∧ n ≤ 8) ∧ N + n ≤ 2000 ∧ GBs x n
section TYC
variable {S0 S : ZS} {x : Int64} {x3 : Int32} {w : List Int} {L : Nat} {o : Int32 × ZS}
theorem tc_77 (h3 : x3.toInt = (L : Int)) (hL : L ≤ 8) (hw : w.length + L ≤ 2000) : ∀ (n : Nat) (x4 : Int32) (k : Nat) (S : ZS), x4.toInt = (k : Int) → k ≤ L → CG S → RWL S 2 (w ++ bys x k) → FR (fun a => a = 2) S0 S → d_X11_type_77 n 1 x x3 x4 S = some o → o.1.toInt = 1 ∧ CG o.2 ∧ RWL o.2 2 (w ++ bys x L) ∧ FR (fun a => a = 2) S0 o.2 := by
  intro n
  induction n with
  | zero => intro x4 k S _ _ _ _ _ hf; cases hf
  | succ n ih =>
    intro x4 k S h4 hk hC hr hF hf
    have hf : d_X11_type_77s (d_X11_type_77 n) 1 x x3 x4 S = some o := hf
    have ll : (w ++ bys x k).length = w.length + k := by rw [List.length_append, bys_l]
    unfold d_X11_type_77s at hf
    rcases m_ifE hf with ⟨c1, hf⟩ | ⟨c1, hf⟩
    · replace c1 := ti_leP (a := x3) (b := x4) c1 rfl rfl
      obtain ⟨-, hf⟩ := m_chkE hf
      cases hf
      have e : k = L := by omega
      rw [e] at hr
      exact ⟨rfl, hC, hr, hF⟩
    · replace c1 := ti_leN (a := x3) (b := x4) c1 rfl rfl
      have p0 : zP S 0 1 = some 2 := fx_p hC.2.2.1 (by decide)
      have k2 : zK S 2 = 6 := fx_k hC.2.2.1 (by decide) (by decide)
      obtain ⟨-, hf⟩ := m_chkE hf
      replace hf := m_calY hf p0
      obtain ⟨⟨r2, S2⟩, h_r2, hf⟩ := m_calE hf
      dsimp only at hf
      have q := p_byteOf (by omega) h_r2
      have q1 : r2 = tyB x x4 := congrArg Prod.fst q
      have q2 : S2 = S := congrArg Prod.snd q
      rw [q1, q2] at hf
      obtain ⟨-, hb, -⟩ := ty_b (x := x) (x4 := x4)
      obtain ⟨-, hf⟩ := m_chkE hf
      obtain ⟨-, hf⟩ := m_chkE hf
      obtain ⟨⟨r4, S5⟩, h_r4, hf⟩ := m_cal2E hf
      dsimp only at hf
      have rl : rL 2 = 2000 := by decide
      have T5 : ZT S5 := (ok_of (p_d_X6_put (SZ := S) (x0 := 2) (x1 := tyB x x4) hC.1 (rpc_of (rp_0 S)) k2 (by omega) (by rw [hr.1, ll, rl]; omega)) h_r4).1
      obtain ⟨g1, g2⟩ := p_rput hC.1 k2 hr (by rw [ll]; omega) (by omega) h_r4
      have F5 := fr_r g2 k2
      have Z5 : TZ S5 := tz_k hC.1 hC.2.1 F5 (fun a _ e => by rw [e, k2]; exact ⟨by decide, by decide, fun h => absurd h (by decide)⟩)
      have C5 : CG S5 := cg_w hC T5 Z5 F5 (by decide) (by decide) (by decide) (by decide)
      obtain ⟨v8, e8, hf⟩ := m_bndE hf
      have t8 : v8.toInt = x4.toInt + 1 := ti_add e8 rfl (show (1 : Int32).toInt = 1 from rfl) (by omega) (by omega)
      refine ih v8 (k + 1) S5 (by omega) (by omega) C5 ?_ (fr_t hF F5) hf
      have ex : x4 = Int32.ofInt (k : Int) := i32_of h4
      rw [ex, List.append_assoc] at g1
      exact g1
theorem tc_31 (h3 : x3.toInt = (L : Int)) (hL : L ≤ 8) : ∀ (n : Nat) (x4 : Int32), 0 ≤ x4.toInt → x4.toInt ≤ (L : Int) → GBs x x4.toInt → d_X11_type_31 n 1 x x3 x4 S = some o → (GBs x (L : Int) ∧ d_X11_type_77 mFuel 1 x x3 0 S = some o) ∨ (¬ GBs x (L : Int) ∧ o.1.toInt = 0 ∧ o.2 = S) := by
  intro n
  induction n with
  | zero => intro x4 _ _ _ hf; cases hf
  | succ n ih =>
    intro x4 h40 h41 hs hf
    have hf : d_X11_type_31s (d_X11_type_31 n) 1 x x3 x4 S = some o := hf
    unfold d_X11_type_31s at hf
    rcases m_ifE hf with ⟨c1, hf⟩ | ⟨c1, hf⟩
    · replace c1 := ti_leP (a := x3) (b := x4) c1 rfl rfl
      rw [show x4.toInt = (L : Int) by omega] at hs
      exact Or.inl ⟨hs, hf⟩
    · replace c1 := ti_leN (a := x3) (b := x4) c1 rfl rfl
      obtain ⟨⟨r1, S1⟩, h_r1, hf⟩ := m_calE hf
      dsimp only at hf
      have q := p_byteOf (by omega) h_r1
      have q1 : r1 = tyB x x4 := congrArg Prod.fst q
      have q2 : S1 = S := congrArg Prod.snd q
      rw [q1, q2] at hf
      obtain ⟨-, hf⟩ := m_chkE hf
      have go : GBy x x4 → d_X11_type_68 (d_X11_type_31 n) 1 x x3 x4 S = some o → (GBs x (L : Int) ∧ d_X11_type_77 mFuel 1 x x3 0 S = some o) ∨ (¬ GBs x (L : Int) ∧ o.1.toInt = 0 ∧ o.2 = S) := fun hg hf => by
        unfold d_X11_type_68 at hf
        obtain ⟨v1, e1, hf⟩ := m_bndE hf
        have t1 : v1.toInt = x4.toInt + 1 := ti_add e1 rfl (show (1 : Int32).toInt = 1 from rfl) (by omega) (by omega)
        refine ih v1 (by omega) (by omega) (fun y y0 y1 => ?_) hf
        by_cases e : y.toInt = x4.toInt
        · have ey : y = x4 := (i32_of e).trans (i32_of rfl).symm
          rw [ey]; exact hg
        · exact hs y y0 (by omega)
      have no : ¬ GBy x x4 → d_X11_type_66 S = some o → (GBs x (L : Int) ∧ d_X11_type_77 mFuel 1 x x3 0 S = some o) ∨ (¬ GBs x (L : Int) ∧ o.1.toInt = 0 ∧ o.2 = S) := fun hg hf => by
        unfold d_X11_type_66 at hf
        obtain ⟨-, hf⟩ := m_chkE hf
        cases hf
        exact Or.inr ⟨fun h => hg (h x4 h40 (by omega)), rfl, rfl⟩
      rcases m_ifE hf with ⟨c2, hf⟩ | ⟨c2, hf⟩
      · replace c2 := ti_eqP (a := tyB x x4) (b := (10 : Int32)) c2 rfl (show (10 : Int32).toInt = 10 from rfl)
        exact go (Or.inl c2) hf
      · replace c2 := ti_eqN (a := tyB x x4) (b := (10 : Int32)) c2 rfl (show (10 : Int32).toInt = 10 from rfl)
        rcases m_ifE hf with ⟨c3, hf⟩ | ⟨c3, hf⟩
        · replace c3 := ti_ltP (a := tyB x x4) (b := (32 : Int32)) c3 rfl (show (32 : Int32).toInt = 32 from rfl)
          exact no (fun h => by unfold GBy at h; omega) hf
        · replace c3 := ti_ltN (a := tyB x x4) (b := (32 : Int32)) c3 rfl (show (32 : Int32).toInt = 32 from rfl)
          rcases m_ifE hf with ⟨c4, hf⟩ | ⟨c4, hf⟩
          · replace c4 := ti_leP (a := tyB x x4) (b := (126 : Int32)) c4 rfl (show (126 : Int32).toInt = 126 from rfl)
            exact go (Or.inr ⟨by omega, by omega⟩) hf
          · replace c4 := ti_leN (a := tyB x x4) (b := (126 : Int32)) c4 rfl (show (126 : Int32).toInt = 126 from rfl)
            exact no (fun h => by unfold GBy at h; omega) hf
/-- the class's type -/
theorem p_type (hC : CG S) (hr : RWL S 2 w) (hf : d_X11_type 1 x x3 S = some o) : (TYo x x3.toInt (w.length : Int) ∧ o.1.toInt = 1 ∧ CG o.2 ∧ RWL o.2 2 (w ++ bys x x3.toInt.toNat) ∧ FR (fun a => a = 2) S o.2) ∨ (¬ TYo x x3.toInt (w.length : Int) ∧ o.1.toInt = 0 ∧ o.2 = S) := by
  have hf : d_X11_type_0 1 x x3 S = some o := hf
  have p0 : zP S 0 1 = some 2 := fx_p hC.2.2.1 (by decide)
  have k2 : zK S 2 = 6 := fx_k hC.2.2.1 (by decide) (by decide)
  have bd := (J_6_1 hC.1 k2)
  have rl : rL 2 = 2000 := by decide
  have no : ¬ TYo x x3.toInt (w.length : Int) → d_X11_type_26 S = some o → (TYo x x3.toInt (w.length : Int) ∧ o.1.toInt = 1 ∧ CG o.2 ∧ RWL o.2 2 (w ++ bys x x3.toInt.toNat) ∧ FR (fun a => a = 2) S o.2) ∨ (¬ TYo x x3.toInt (w.length : Int) ∧ o.1.toInt = 0 ∧ o.2 = S) := fun hn hf => by
    unfold d_X11_type_26 at hf
    obtain ⟨-, hf⟩ := m_chkE hf
    cases hf
    exact Or.inr ⟨hn, rfl, rfl⟩
  unfold d_X11_type_0 at hf
  rcases m_ifE hf with ⟨c1, hf⟩ | ⟨c1, hf⟩
  · replace c1 := ti_ltP (a := x3) (b := (1 : Int32)) c1 rfl (show (1 : Int32).toInt = 1 from rfl)
    exact no (fun h => by have := h.1; omega) hf
  · replace c1 := ti_ltN (a := x3) (b := (1 : Int32)) c1 rfl (show (1 : Int32).toInt = 1 from rfl)
    rcases m_ifE hf with ⟨c2, hf⟩ | ⟨c2, hf⟩
    · replace c2 := ti_ltP (a := (8 : Int32)) (b := x3) c2 (show (8 : Int32).toInt = 8 from rfl) rfl
      exact no (fun h => by have := h.1; omega) hf
    · replace c2 := ti_ltN (a := (8 : Int32)) (b := x3) c2 (show (8 : Int32).toInt = 8 from rfl) rfl
      obtain ⟨-, hf⟩ := m_chkE hf
      replace hf := m_calY hf p0
      obtain ⟨-, hf⟩ := m_chkE hf
      obtain ⟨r2, h_r2, hf⟩ := m_calR hf (fun _ h => ro_X6_size h)
      dsimp only at hf
      have q2 : r2.toInt = (w.length : Int) := by
        have h2 : f_X6_size_0 2 S = some (r2, S) := h_r2
        unfold f_X6_size_0 at h2
        obtain ⟨-, h2⟩ := m_chkE h2
        have := congrArg Prod.fst (Option.some.inj h2)
        dsimp only at this
        rw [← this]; exact hr.1
      obtain ⟨-, hf⟩ := m_chkE hf
      obtain ⟨v3, e3, hf⟩ := m_bndE hf
      have wl : (w.length : Int) ≤ 100000 := by rw [← hr.1]; omega
      have t3 : v3.toInt = r2.toInt + x3.toInt := ti_add e3 rfl rfl (by omega) (by omega)
      rcases m_ifE hf with ⟨c3, hf⟩ | ⟨c3, hf⟩
      · replace c3 := ti_leP (a := v3) (b := (2000 : Int32)) c3 rfl (show (2000 : Int32).toInt = 2000 from rfl)
        have h3 : x3.toInt = ((x3.toInt.toNat : Nat) : Int) := by omega
        rcases tc_31 h3 (by omega) mFuel 0 (by decide) (show (0 : Int) ≤ _ by omega) (fun y y0 y1 => by have z : (0 : Int32).toInt = 0 := rfl; omega) hf with ⟨a1, a2⟩ | ⟨a1, a2⟩
        · obtain ⟨b1, b2, b3, b4⟩ := tc_77 (S0 := S) (w := w) h3 (by omega) (by omega) mFuel 0 0 S rfl (Nat.zero_le _) hC (by rw [show bys x 0 = [] from rfl, List.append_nil]; exact hr) fr_0 a2
          exact Or.inl ⟨⟨⟨by omega, by omega⟩, by omega, by rw [h3]; exact a1⟩, b1, b2, b3, b4⟩
        · exact Or.inr ⟨fun h => a1 (by rw [← h3]; exact h.2.2), a2⟩
      · replace c3 := ti_leN (a := v3) (b := (2000 : Int32)) c3 rfl (show (2000 : Int32).toInt = 2000 from rfl)
        exact no (fun h => by have := h.2.1; omega) hf
end TYC
