def pPG (a b : Int) : Prop := ((b = a + 8) ∨ (b = a - 8) ∨ (b = a + 16 ∧ a / 8 = 1) ∨ (b = a - 16 ∧ a / 8 = 6) ∨ ((b / 8 = a / 8 + 1 ∨ b / 8 = a / 8 - 1) ∧ (b % 8 - a % 8 = 1 ∨ b % 8 - a % 8 = -1)))
def pGE (a b : Int) : Prop := ((b % 8 - a % 8 = 0 ∨ b / 8 - a / 8 = 0 ∨ b % 8 - a % 8 = b / 8 - a / 8 ∨ b % 8 - a % 8 = a / 8 - b / 8) ∨ ((b % 8 - a % 8 = 1 ∨ b % 8 - a % 8 = -1) ∧ (b / 8 - a / 8 = 2 ∨ b / 8 - a / 8 = -2)) ∨ ((b % 8 - a % 8 = 2 ∨ b % 8 - a % 8 = -2) ∧ (b / 8 - a / 8 = 1 ∨ b / 8 - a / 8 = -1)))
def gD (a b f r y1 y2 kk : Int) : Prop := f = b % 8 - a % 8 ∧ r = b / 8 - a / 8 ∧ a ≠ b ∧ y1 = a ∧ y2 = b ∧ kk ≠ 1
def gA (f r : Int) : Prop := f = 0 ∨ r = 0 ∨ f = r ∨ f = -r
def gS (t d : Int) : Prop := (0 < d → t = 1) ∧ (d < 0 → t = -1) ∧ (d = 0 → t = 0)
theorem gD_ne {a b f r y1 y2 kk : Int} (h : gD a b f r y1 y2 kk) : a ≠ b := h.2.2.1
theorem gD_k {a b f r y1 y2 kk : Int} (h : gD a b f r y1 y2 kk) : kk ≠ 1 := h.2.2.2.2.2
theorem gD_al {a b f r y1 y2 kk : Int} (h : gD a b f r y1 y2 kk) (g : gA f r) : b % 8 - a % 8 = 0 ∨ b / 8 - a / 8 = 0 ∨ b % 8 - a % 8 = b / 8 - a / 8 ∨ b % 8 - a % 8 = a / 8 - b / 8 := by
  unfold gD at h; unfold gA at g; omega
theorem gD_ge {a b f r y1 y2 kk : Int} (h : gD a b f r y1 y2 kk) (g : gA f r) : pGE y1 y2 := by
  have h1 := gD_al h g
  rw [h.2.2.2.1, h.2.2.2.2.1]
  exact Or.inl h1
theorem gD_sx {a b f r y1 y2 kk t : Int} (h : gD a b f r y1 y2 kk) (g : gS t f) : (0 < b % 8 - a % 8 → t = 1) ∧ (b % 8 - a % 8 < 0 → t = -1) ∧ (b % 8 - a % 8 = 0 → t = 0) := by
  rw [h.1] at g; exact g
theorem gD_sy {a b f r y1 y2 kk t : Int} (h : gD a b f r y1 y2 kk) (g : gS t r) : (0 < b / 8 - a / 8 → t = 1) ∧ (b / 8 - a / 8 < 0 → t = -1) ∧ (b / 8 - a / 8 = 0 → t = 0) := by
  rw [h.2.1] at g; exact g
theorem ti_div8 {t v : Int32} (e : v = t / (8 : Int32)) (h : t.toInt = 8 ∨ t.toInt = -8) : (t.toInt = 8 ∧ v.toInt = 1) ∨ (t.toInt = -8 ∧ v.toInt = -1) := by
  rcases h with h | h
  · have : t = 8 := Int32.toInt_inj.mp h
    subst this; subst e; left; decide
  · have : t = -8 := Int32.toInt_inj.mp h
    subst this; subst e; right; decide
def onw (dx dy s t : Int) : Prop := ∃ k : Int, 0 ≤ k ∧ k ≤ 7 ∧ t % 8 = s % 8 + k * dx ∧ t / 8 = s / 8 + k * dy
theorem onw_step {dx dy s t r : Int} (h1 : -1 ≤ dx ∧ dx ≤ 1) (h2 : -1 ≤ dy ∧ dy ≤ 1) (h3 : 0 ≤ s ∧ s ≤ 63) (h4 : 0 ≤ t ∧ t ≤ 63) (ho : onw dx dy s t) (hne : s ≠ t) (h : (0 ≤ s % 8 + dx ∧ s % 8 + dx < 8 ∧ 0 ≤ s / 8 + dy ∧ s / 8 + dy < 8 ∧ r = 8 * (s / 8 + dy) + (s % 8 + dx)) ∨ (r = -1 ∧ (s % 8 + dx < 0 ∨ 8 ≤ s % 8 + dx ∨ s / 8 + dy < 0 ∨ 8 ≤ s / 8 + dy))) : (0 ≤ r ∧ r ≤ 63) ∧ onw dx dy r t := by
  obtain ⟨k, k1, k2, k3, k4⟩ := ho
  have hx : dx = -1 ∨ dx = 0 ∨ dx = 1 := by omega
  have hy : dy = -1 ∨ dy = 0 ∨ dy = 1 := by omega
  have key : 1 ≤ k ∧ 0 ≤ s % 8 + dx ∧ s % 8 + dx < 8 ∧ 0 ≤ s / 8 + dy ∧ s / 8 + dy < 8 := by
    rcases hx with e | e | e <;> rcases hy with e' | e' | e' <;> subst e <;> subst e' <;> omega
  have hr : r = 8 * (s / 8 + dy) + (s % 8 + dx) := by omega
  refine ⟨by omega, k - 1, by omega, by omega, ?_, ?_⟩
  · have e1 : r % 8 = s % 8 + dx := by omega
    rw [e1]
    rcases hx with e | e | e <;> subst e <;> omega
  · have e2 : r / 8 = s / 8 + dy := by omega
    rw [e2]
    rcases hy with e | e | e <;> subst e <;> omega
theorem onw_start {a b dx dy r : Int} (h3 : 0 ≤ a ∧ a ≤ 63) (h4 : 0 ≤ b ∧ b ≤ 63) (h1 : -1 ≤ dx ∧ dx ≤ 1) (h2 : -1 ≤ dy ∧ dy ≤ 1) (hne : a ≠ b) (al : b % 8 - a % 8 = 0 ∨ b / 8 - a / 8 = 0 ∨ b % 8 - a % 8 = b / 8 - a / 8 ∨ b % 8 - a % 8 = a / 8 - b / 8) (sx : (0 < b % 8 - a % 8 → dx = 1) ∧ (b % 8 - a % 8 < 0 → dx = -1) ∧ (b % 8 - a % 8 = 0 → dx = 0)) (sy : (0 < b / 8 - a / 8 → dy = 1) ∧ (b / 8 - a / 8 < 0 → dy = -1) ∧ (b / 8 - a / 8 = 0 → dy = 0))
    (h : (0 ≤ a % 8 + dx ∧ a % 8 + dx < 8 ∧ 0 ≤ a / 8 + dy ∧ a / 8 + dy < 8 ∧ r = 8 * (a / 8 + dy) + (a % 8 + dx)) ∨ (r = -1 ∧ (a % 8 + dx < 0 ∨ 8 ≤ a % 8 + dx ∨ a / 8 + dy < 0 ∨ 8 ≤ a / 8 + dy))) : (dx ≠ 0 ∨ dy ≠ 0) ∧ (0 ≤ r ∧ r ≤ 63) ∧ onw dx dy r b := by
  have hx : dx = -1 ∨ dx = 0 ∨ dx = 1 := by omega
  have hy : dy = -1 ∨ dy = 0 ∨ dy = 1 := by omega
  refine ⟨by omega, ?_⟩
  have h0 : onw dx dy a b := by
    rcases hx with e | e | e <;> rcases hy with e' | e' | e' <;> subst e <;> subst e'
    · exact ⟨a % 8 - b % 8, by omega, by omega, by omega, by omega⟩
    · exact ⟨a % 8 - b % 8, by omega, by omega, by omega, by omega⟩
    · exact ⟨a % 8 - b % 8, by omega, by omega, by omega, by omega⟩
    · exact ⟨a / 8 - b / 8, by omega, by omega, by omega, by omega⟩
    · exfalso; omega
    · exact ⟨b / 8 - a / 8, by omega, by omega, by omega, by omega⟩
    · exact ⟨b % 8 - a % 8, by omega, by omega, by omega, by omega⟩
    · exact ⟨b % 8 - a % 8, by omega, by omega, by omega, by omega⟩
    · exact ⟨b % 8 - a % 8, by omega, by omega, by omega, by omega⟩
  exact onw_step h1 h2 h3 h4 h0 hne h
theorem pPG_GE {a b : Int} (h1 : 0 ≤ a ∧ a ≤ 63) (h2 : 0 ≤ b ∧ b ≤ 63) (h : pPG a b) : pGE a b := by
  unfold pPG at h; unfold pGE; omega
theorem t_pawnGoes_63  {I : Nat → Int32} {A : Nat → Nat → Int32} {x1 : Int32} {x2 : Int32} {x3 : Int32} {t0 : Int32} {t1 : Int32} (hI : TJ I) (hA : TK A) (r_x1 : (0 : Int) ≤ x1.toInt ∧ x1.toInt ≤ (63 : Int)) (r_x2 : (0 : Int) ≤ x2.toInt ∧ x2.toInt ≤ (63 : Int)) (r_x3 : (-8 : Int) ≤ x3.toInt ∧ x3.toInt ≤ (8 : Int)) (r_t0 : (1 : Int) ≤ t0.toInt ∧ t0.toInt ≤ (6 : Int)) (q0 : x2.toInt = x1.toInt + 2 * x3.toInt ∧ t1.toInt = x1.toInt / 8 ∧ ((x3.toInt = 8 ∧ t0.toInt = 1) ∨ (x3.toInt = -8 ∧ t0.toInt = 6))) : Ok (f_pawnGoes_63 x1 x2 x3 t0 t1 I A) (fun o => o.2 = (I, A) ∧ ((0 : Int) ≤ o.1.toInt ∧ o.1.toInt ≤ (1 : Int)) ∧ ((o.1.toInt = 1 → pPG x1.toInt x2.toInt))) := by
  unfold f_pawnGoes_63
  refine ok_if (fun c1 => ?_) (fun c1 => ?_)
  ·
    replace c1 := ti_eqP c1 rfl rfl
    refine ok_bnd (fun v1 e2 => ?_)
    have t_v1 : v1.toInt = x1.toInt + x3.toInt := ti_add e2 rfl rfl (by omega) (by omega)
    refine ok_chk (ti_in (by omega) (by omega)) ?_
    refine ok_bnd (fun v2 e3 => ?_)
    refine ok_if (fun c4 => ?_) (fun c4 => ?_)
    ·
      replace c4 := ti_eqP c4 rfl (show (0 : Int32).toInt = 0 from rfl)
      refine ok_chk (ti_in (by omega) (by omega)) ?_
      refine ok_bnd (fun v3 e5 => ?_)
      refine ok_if (fun c6 => ?_) (fun c6 => ?_)
      ·
        replace c6 := ti_eqP c6 rfl (show (0 : Int32).toInt = 0 from rfl)
        unfold f_pawnGoes_91
        refine ok_chk (by decide) ?_
        exact ok_ret ⟨rfl, (show (0 : Int) ≤ (1 : Int32).toInt ∧ (1 : Int32).toInt ≤ (1 : Int) from (by decide)), (by show ((1 : Int32).toInt = 1 → pPG x1.toInt x2.toInt); intro h; unfold pPG; omega)⟩
      ·
        replace c6 := ti_eqN c6 rfl (show (0 : Int32).toInt = 0 from rfl)
        unfold f_pawnGoes_90
        unfold f_pawnGoes_91
        refine ok_chk (by decide) ?_
        exact ok_ret ⟨rfl, (show (0 : Int) ≤ (0 : Int32).toInt ∧ (0 : Int32).toInt ≤ (1 : Int) from (by decide)), (by show ((0 : Int32).toInt = 1 → pPG x1.toInt x2.toInt); exact fun h => absurd h (by decide))⟩
    ·
      replace c4 := ti_eqN c4 rfl (show (0 : Int32).toInt = 0 from rfl)
      unfold f_pawnGoes_90
      unfold f_pawnGoes_91
      refine ok_chk (by decide) ?_
      exact ok_ret ⟨rfl, (show (0 : Int) ≤ (0 : Int32).toInt ∧ (0 : Int32).toInt ≤ (1 : Int) from (by decide)), (by show ((0 : Int32).toInt = 1 → pPG x1.toInt x2.toInt); exact fun h => absurd h (by decide))⟩
  ·
    replace c1 := ti_eqN c1 rfl rfl
    unfold f_pawnGoes_90
    unfold f_pawnGoes_91
    refine ok_chk (by decide) ?_
    exact ok_ret ⟨rfl, (show (0 : Int) ≤ (0 : Int32).toInt ∧ (0 : Int32).toInt ≤ (1 : Int) from (by decide)), (by show ((0 : Int32).toInt = 1 → pPG x1.toInt x2.toInt); exact fun h => absurd h (by decide))⟩
theorem t_pawnGoes_14  {I : Nat → Int32} {A : Nat → Nat → Int32} {x1 : Int32} {x2 : Int32} {t0 : Int32} (hI : TJ I) (hA : TK A) (r_x1 : (0 : Int) ≤ x1.toInt ∧ x1.toInt ≤ (63 : Int)) (r_x2 : (0 : Int) ≤ x2.toInt ∧ x2.toInt ≤ (63 : Int)) (r_t0 : (-8 : Int) ≤ t0.toInt ∧ t0.toInt ≤ (8 : Int)) (q0 : (t0.toInt = 8 ∧ (I 25).toInt = 0) ∨ (t0.toInt = -8 ∧ (I 25).toInt ≠ 0)) : Ok (f_pawnGoes_14 x1 x2 t0 I A) (fun o => o.2 = (I, A) ∧ ((0 : Int) ≤ o.1.toInt ∧ o.1.toInt ≤ (1 : Int)) ∧ ((o.1.toInt = 1 → pPG x1.toInt x2.toInt))) := by
  unfold f_pawnGoes_14
  refine ok_bnd (fun v1 e7 => ?_)
  have t_v1 : v1.toInt = x1.toInt + t0.toInt := ti_add e7 rfl rfl (by omega) (by omega)
  refine ok_if (fun c8 => ?_) (fun c8 => ?_)
  ·
    replace c8 := ti_eqP c8 rfl rfl
    refine ok_chk (ti_in (by omega) (by omega)) ?_
    refine ok_bnd (fun v12 e9 => ?_)
    refine ok_if (fun c10 => ?_) (fun c10 => ?_)
    ·
      replace c10 := ti_eqP c10 rfl (show (0 : Int32).toInt = 0 from rfl)
      unfold f_pawnGoes_36
      refine ok_chk (by decide) ?_
      exact ok_ret ⟨rfl, (show (0 : Int) ≤ (1 : Int32).toInt ∧ (1 : Int32).toInt ≤ (1 : Int) from (by decide)), (by show ((1 : Int32).toInt = 1 → pPG x1.toInt x2.toInt); intro h; unfold pPG; omega)⟩
    ·
      replace c10 := ti_eqN c10 rfl (show (0 : Int32).toInt = 0 from rfl)
      unfold f_pawnGoes_36
      refine ok_chk (by decide) ?_
      exact ok_ret ⟨rfl, (show (0 : Int) ≤ (0 : Int32).toInt ∧ (0 : Int32).toInt ≤ (1 : Int) from (by decide)), (by show ((0 : Int32).toInt = 1 → pPG x1.toInt x2.toInt); exact fun h => absurd h (by decide))⟩
  ·
    replace c8 := ti_eqN c8 rfl rfl
    refine ok_bnd (fun v2 e11 => ?_)
    have t_v2 : v2.toInt = 2 * t0.toInt := ti_mul e11 (show (2 : Int32).toInt = 2 from rfl) rfl (by omega) (by omega)
    refine ok_bnd (fun v3 e12 => ?_)
    have t_v3 : v3.toInt = x1.toInt + v2.toInt := ti_add e12 rfl rfl (by omega) (by omega)
    refine ok_if (fun c13 => ?_) (fun c13 => ?_)
    ·
      replace c13 := ti_eqP c13 rfl rfl
      refine ok_bnd (fun v11 e14 => ?_)
      have t_v11 : v11.toInt = x1.toInt / 8 := ti_div e14 rfl (show (8 : Int32).toInt = 8 from rfl) (by omega) (by decide)
      have b_I_25 := tI_25 hI
      refine ok_if (fun c15 => ?_) (fun c15 => ?_)
      ·
        replace c15 := ti_eqP c15 rfl (show (0 : Int32).toInt = 0 from rfl)
        exact t_pawnGoes_63    (x1 := x1) (x2 := x2) (x3 := t0) (t0 := (1 : Int32)) (t1 := v11) hI hA r_x1 r_x2 r_t0 (by decide) (by have z0 : (1 : Int32).toInt = 1 := rfl; omega)
      ·
        replace c15 := ti_eqN c15 rfl (show (0 : Int32).toInt = 0 from rfl)
        exact t_pawnGoes_63    (x1 := x1) (x2 := x2) (x3 := t0) (t0 := (6 : Int32)) (t1 := v11) hI hA r_x1 r_x2 r_t0 (by decide) (by have z0 : (6 : Int32).toInt = 6 := rfl; omega)
    ·
      replace c13 := ti_eqN c13 rfl rfl
      refine ok_bnd (fun v4 e16 => ?_)
      have t_v4 : v4.toInt = x2.toInt % 8 := ti_rem e16 rfl (show (8 : Int32).toInt = 8 from rfl) (by omega) (by decide)
      refine ok_bnd (fun v5 e17 => ?_)
      have t_v5 : v5.toInt = x1.toInt % 8 := ti_rem e17 rfl (show (8 : Int32).toInt = 8 from rfl) (by omega) (by decide)
      refine ok_bnd (fun v6 e18 => ?_)
      have t_v6 : v6.toInt = v4.toInt - v5.toInt := ti_sub e18 rfl rfl (by omega) (by omega)
      refine ok_bnd (fun v7 e19 => ?_)
      have t_v7 : v7.toInt = x2.toInt / 8 := ti_div e19 rfl (show (8 : Int32).toInt = 8 from rfl) (by omega) (by decide)
      refine ok_bnd (fun v8 e20 => ?_)
      have t_v8 : v8.toInt = x1.toInt / 8 := ti_div e20 rfl (show (8 : Int32).toInt = 8 from rfl) (by omega) (by decide)
      refine ok_bnd (fun v9 e21 => ?_)
      have t_v9 := ti_div8 e21 (by omega)
      refine ok_bnd (fun v10 e22 => ?_)
      have t_v10 : v10.toInt = v8.toInt + v9.toInt := ti_add e22 rfl rfl (by omega) (by omega)
      refine ok_if (fun c23 => ?_) (fun c23 => ?_)
      ·
        replace c23 := ti_eqP c23 rfl rfl
        refine ok_if (fun c24 => ?_) (fun c24 => ?_)
        ·
          replace c24 := ti_eqP c24 rfl (show (1 : Int32).toInt = 1 from rfl)
          unfold f_pawnGoes_131
          refine ok_chk (ti_in (by omega) (by omega)) ?_
          refine ok_bnd (fun v1 e25 => ?_)
          obtain ⟨r2, h_r2, p_r2⟩ := ro (t_sideOf (x0 := v1)  hI hA )
          refine ok_clR h_r2 ?_
          refine ok_bnd (fun v3 e26 => ?_)
          have b_I_25 := tI_25 hI
          have t_v3 : v3.toInt = 1 - (I 25).toInt := ti_sub e26 (show (1 : Int32).toInt = 1 from rfl) rfl (by omega) (by omega)
          refine ok_if (fun c27 => ?_) (fun c27 => ?_)
          ·
            replace c27 := ti_eqP c27 rfl rfl
            unfold f_pawnGoes_157
            unfold f_pawnGoes_162
            refine ok_chk (by decide) ?_
            exact ok_ret ⟨rfl, (show (0 : Int) ≤ (1 : Int32).toInt ∧ (1 : Int32).toInt ≤ (1 : Int) from (by decide)), (by show ((1 : Int32).toInt = 1 → pPG x1.toInt x2.toInt); intro h; unfold pPG; omega)⟩
          ·
            replace c27 := ti_eqN c27 rfl rfl
            refine ok_if (fun c28 => ?_) (fun c28 => ?_)
            ·
              replace c28 := ti_eqP c28 rfl rfl
              unfold f_pawnGoes_157
              unfold f_pawnGoes_162
              refine ok_chk (by decide) ?_
              exact ok_ret ⟨rfl, (show (0 : Int) ≤ (1 : Int32).toInt ∧ (1 : Int32).toInt ≤ (1 : Int) from (by decide)), (by show ((1 : Int32).toInt = 1 → pPG x1.toInt x2.toInt); intro h; unfold pPG; omega)⟩
            ·
              replace c28 := ti_eqN c28 rfl rfl
              unfold f_pawnGoes_161
              unfold f_pawnGoes_162
              refine ok_chk (by decide) ?_
              exact ok_ret ⟨rfl, (show (0 : Int) ≤ (0 : Int32).toInt ∧ (0 : Int32).toInt ≤ (1 : Int) from (by decide)), (by show ((0 : Int32).toInt = 1 → pPG x1.toInt x2.toInt); exact fun h => absurd h (by decide))⟩
        ·
          replace c24 := ti_eqN c24 rfl (show (1 : Int32).toInt = 1 from rfl)
          refine ok_if (fun c29 => ?_) (fun c29 => ?_)
          ·
            replace c29 := ti_eqP c29 rfl (show (-1 : Int32).toInt = -1 from rfl)
            unfold f_pawnGoes_131
            refine ok_chk (ti_in (by omega) (by omega)) ?_
            refine ok_bnd (fun v1 e30 => ?_)
            obtain ⟨r2, h_r2, p_r2⟩ := ro (t_sideOf (x0 := v1)  hI hA )
            refine ok_clR h_r2 ?_
            refine ok_bnd (fun v3 e31 => ?_)
            have b_I_25 := tI_25 hI
            have t_v3 : v3.toInt = 1 - (I 25).toInt := ti_sub e31 (show (1 : Int32).toInt = 1 from rfl) rfl (by omega) (by omega)
            refine ok_if (fun c32 => ?_) (fun c32 => ?_)
            ·
              replace c32 := ti_eqP c32 rfl rfl
              unfold f_pawnGoes_157
              unfold f_pawnGoes_162
              refine ok_chk (by decide) ?_
              exact ok_ret ⟨rfl, (show (0 : Int) ≤ (1 : Int32).toInt ∧ (1 : Int32).toInt ≤ (1 : Int) from (by decide)), (by show ((1 : Int32).toInt = 1 → pPG x1.toInt x2.toInt); intro h; unfold pPG; omega)⟩
            ·
              replace c32 := ti_eqN c32 rfl rfl
              refine ok_if (fun c33 => ?_) (fun c33 => ?_)
              ·
                replace c33 := ti_eqP c33 rfl rfl
                unfold f_pawnGoes_157
                unfold f_pawnGoes_162
                refine ok_chk (by decide) ?_
                exact ok_ret ⟨rfl, (show (0 : Int) ≤ (1 : Int32).toInt ∧ (1 : Int32).toInt ≤ (1 : Int) from (by decide)), (by show ((1 : Int32).toInt = 1 → pPG x1.toInt x2.toInt); intro h; unfold pPG; omega)⟩
              ·
                replace c33 := ti_eqN c33 rfl rfl
                unfold f_pawnGoes_161
                unfold f_pawnGoes_162
                refine ok_chk (by decide) ?_
                exact ok_ret ⟨rfl, (show (0 : Int) ≤ (0 : Int32).toInt ∧ (0 : Int32).toInt ≤ (1 : Int) from (by decide)), (by show ((0 : Int32).toInt = 1 → pPG x1.toInt x2.toInt); exact fun h => absurd h (by decide))⟩
          ·
            replace c29 := ti_eqN c29 rfl (show (-1 : Int32).toInt = -1 from rfl)
            unfold f_pawnGoes_161
            unfold f_pawnGoes_162
            refine ok_chk (by decide) ?_
            exact ok_ret ⟨rfl, (show (0 : Int) ≤ (0 : Int32).toInt ∧ (0 : Int32).toInt ≤ (1 : Int) from (by decide)), (by show ((0 : Int32).toInt = 1 → pPG x1.toInt x2.toInt); exact fun h => absurd h (by decide))⟩
      ·
        replace c23 := ti_eqN c23 rfl rfl
        unfold f_pawnGoes_161
        unfold f_pawnGoes_162
        refine ok_chk (by decide) ?_
        exact ok_ret ⟨rfl, (show (0 : Int) ≤ (0 : Int32).toInt ∧ (0 : Int32).toInt ≤ (1 : Int) from (by decide)), (by show ((0 : Int32).toInt = 1 → pPG x1.toInt x2.toInt); exact fun h => absurd h (by decide))⟩
theorem t_pawnGoes_0  {I : Nat → Int32} {A : Nat → Nat → Int32} {x1 : Int32} {x2 : Int32} (hI : TJ I) (hA : TK A) (r_x1 : (0 : Int) ≤ x1.toInt ∧ x1.toInt ≤ (63 : Int)) (r_x2 : (0 : Int) ≤ x2.toInt ∧ x2.toInt ≤ (63 : Int)) : Ok (f_pawnGoes_0 x1 x2 I A) (fun o => o.2 = (I, A) ∧ ((0 : Int) ≤ o.1.toInt ∧ o.1.toInt ≤ (1 : Int)) ∧ ((o.1.toInt = 1 → pPG x1.toInt x2.toInt))) := by
  unfold f_pawnGoes_0
  have b_I_25 := tI_25 hI
  refine ok_if (fun c34 => ?_) (fun c34 => ?_)
  ·
    replace c34 := ti_eqP c34 rfl (show (0 : Int32).toInt = 0 from rfl)
    exact t_pawnGoes_14    (x1 := x1) (x2 := x2) (t0 := (8 : Int32)) hI hA r_x1 r_x2 (by decide) (by have z0 : (8 : Int32).toInt = 8 := rfl; omega)
  ·
    replace c34 := ti_eqN c34 rfl (show (0 : Int32).toInt = 0 from rfl)
    exact t_pawnGoes_14    (x1 := x1) (x2 := x2) (t0 := (-8 : Int32)) hI hA r_x1 r_x2 (by decide) (by have z0 : (-8 : Int32).toInt = -8 := rfl; omega)
theorem t_pawnGoes  {I : Nat → Int32} {A : Nat → Nat → Int32} {x1 : Int32} {x2 : Int32} (hI : TJ I) (hA : TK A) (r_x1 : (0 : Int) ≤ x1.toInt ∧ x1.toInt ≤ (63 : Int)) (r_x2 : (0 : Int) ≤ x2.toInt ∧ x2.toInt ≤ (63 : Int)) : Ok (f_pawnGoes x1 x2 I A) (fun o => o.2 = (I, A) ∧ ((0 : Int) ≤ o.1.toInt ∧ o.1.toInt ≤ (1 : Int)) ∧ ((o.1.toInt = 1 → pPG x1.toInt x2.toInt))) := t_pawnGoes_0  hI hA r_x1 r_x2
theorem t_goes_274s {y1 y2 kk : Int} {I : Nat → Int32} {A : Nat → Nat → Int32} {self274 : Int32 → Int32 → Int32 → Int32 → (Nat → Int32) → (Nat → Nat → Int32) → Option (Int32 × MS)} {N274 : Nat} (hself274 : ∀ (x2 : Int32) (x8 : Int32) (x9 : Int32) (x10 : Int32),  ((0 : Int) ≤ x2.toInt ∧ x2.toInt ≤ (63 : Int)) → ((-1 : Int) ≤ x8.toInt ∧ x8.toInt ≤ (1 : Int)) → ((-1 : Int) ≤ x9.toInt ∧ x9.toInt ≤ (1 : Int)) → ((0 : Int) ≤ x10.toInt ∧ x10.toInt ≤ (63 : Int)) → (onw x8.toInt x9.toInt x10.toInt x2.toInt) → (x8.toInt ≠ 0 ∨ x9.toInt ≠ 0) → (kk ≠ 1) → (pGE y1 y2) → (mst x8.toInt x9.toInt x10.toInt) < (N274 : Int) → Ok (self274 x2 x8 x9 x10 I A) (fun o => o.2 = (I, A) ∧ ((0 : Int) ≤ o.1.toInt ∧ o.1.toInt ≤ (1 : Int)) ∧ ((o.1.toInt = 1 → pGE y1 y2)) ∧ ((o.1.toInt = 1 → kk = 1 → pPG y1 y2)))) {x2 : Int32} {x8 : Int32} {x9 : Int32} {x10 : Int32} (hI : TJ I) (hA : TK A) (r_x2 : (0 : Int) ≤ x2.toInt ∧ x2.toInt ≤ (63 : Int)) (r_x8 : (-1 : Int) ≤ x8.toInt ∧ x8.toInt ≤ (1 : Int)) (r_x9 : (-1 : Int) ≤ x9.toInt ∧ x9.toInt ≤ (1 : Int)) (r_x10 : (0 : Int) ≤ x10.toInt ∧ x10.toInt ≤ (63 : Int)) (q0 : onw x8.toInt x9.toInt x10.toInt x2.toInt) (q1 : x8.toInt ≠ 0 ∨ x9.toInt ≠ 0) (q2 : kk ≠ 1) (q3 : pGE y1 y2) (m274 : (mst x8.toInt x9.toInt x10.toInt) ≤ (N274 : Int)) : Ok (f_goes_274s self274 x2 x8 x9 x10 I A) (fun o => o.2 = (I, A) ∧ ((0 : Int) ≤ o.1.toInt ∧ o.1.toInt ≤ (1 : Int)) ∧ ((o.1.toInt = 1 → pGE y1 y2)) ∧ ((o.1.toInt = 1 → kk = 1 → pPG y1 y2))) := by
  unfold f_goes_274s
  refine ok_if (fun c35 => ?_) (fun c35 => ?_)
  ·
    replace c35 := ti_eqP c35 rfl rfl
    unfold f_goes_304
    refine ok_if (fun c36 => ?_) (fun c36 => ?_)
    ·
      replace c36 := ti_eqP c36 rfl rfl
      unfold f_goes_315
      refine ok_chk (by decide) ?_
      exact ok_ret ⟨rfl, (show (0 : Int) ≤ (1 : Int32).toInt ∧ (1 : Int32).toInt ≤ (1 : Int) from (by decide)), (by show ((1 : Int32).toInt = 1 → pGE y1 y2); exact fun _ => q3), (by show ((1 : Int32).toInt = 1 → kk = 1 → pPG y1 y2); exact fun _ h => absurd h q2)⟩
    ·
      replace c36 := ti_eqN c36 rfl rfl
      unfold f_goes_315
      refine ok_chk (by decide) ?_
      exact ok_ret ⟨rfl, (show (0 : Int) ≤ (0 : Int32).toInt ∧ (0 : Int32).toInt ≤ (1 : Int) from (by decide)), (by show ((0 : Int32).toInt = 1 → pGE y1 y2); exact fun h => absurd h (by decide)), (by show ((0 : Int32).toInt = 1 → kk = 1 → pPG y1 y2); exact fun h => absurd h (by decide))⟩
  ·
    replace c35 := ti_eqN c35 rfl rfl
    refine ok_chk (ti_in (by omega) (by omega)) ?_
    refine ok_bnd (fun v1 e37 => ?_)
    refine ok_if (fun c38 => ?_) (fun c38 => ?_)
    ·
      replace c38 := ti_eqP c38 rfl (show (0 : Int32).toInt = 0 from rfl)
      obtain ⟨r2, h_r2, p_r2⟩ := ro (t_step (x0 := x10) (x1 := x8) (x2 := x9)  hI hA r_x10 (by omega) (by omega))
      refine ok_clR h_r2 ?_
      dsimp only at p_r2
      have w2 := onw_step r_x8 r_x9 r_x10 r_x2 q0 (by omega) p_r2.2
      exact hself274 x2 x8 x9 r2 r_x2 r_x8 r_x9 (by omega) w2.2 q1 q2 q3 (Int.lt_of_lt_of_le (mst_dec r_x8 r_x9 q1 (by omega) p_r2.2) m274)
    ·
      replace c38 := ti_eqN c38 rfl (show (0 : Int32).toInt = 0 from rfl)
      unfold f_goes_304
      refine ok_if (fun c39 => ?_) (fun c39 => ?_)
      ·
        replace c39 := ti_eqP c39 rfl rfl
        unfold f_goes_315
        refine ok_chk (by decide) ?_
        exact ok_ret ⟨rfl, (show (0 : Int) ≤ (1 : Int32).toInt ∧ (1 : Int32).toInt ≤ (1 : Int) from (by decide)), (by show ((1 : Int32).toInt = 1 → pGE y1 y2); exact fun _ => q3), (by show ((1 : Int32).toInt = 1 → kk = 1 → pPG y1 y2); exact fun _ h => absurd h q2)⟩
      ·
        replace c39 := ti_eqN c39 rfl rfl
        unfold f_goes_315
        refine ok_chk (by decide) ?_
        exact ok_ret ⟨rfl, (show (0 : Int) ≤ (0 : Int32).toInt ∧ (0 : Int32).toInt ≤ (1 : Int) from (by decide)), (by show ((0 : Int32).toInt = 1 → pGE y1 y2); exact fun h => absurd h (by decide)), (by show ((0 : Int32).toInt = 1 → kk = 1 → pPG y1 y2); exact fun h => absurd h (by decide))⟩
theorem t_goes_274 {y1 y2 kk : Int} {I : Nat → Int32} {A : Nat → Nat → Int32} (hI : TJ I) (hA : TK A) : ∀ (n : Nat) (x2 : Int32) (x8 : Int32) (x9 : Int32) (x10 : Int32),  ((0 : Int) ≤ x2.toInt ∧ x2.toInt ≤ (63 : Int)) → ((-1 : Int) ≤ x8.toInt ∧ x8.toInt ≤ (1 : Int)) → ((-1 : Int) ≤ x9.toInt ∧ x9.toInt ≤ (1 : Int)) → ((0 : Int) ≤ x10.toInt ∧ x10.toInt ≤ (63 : Int)) → (onw x8.toInt x9.toInt x10.toInt x2.toInt) → (x8.toInt ≠ 0 ∨ x9.toInt ≠ 0) → (kk ≠ 1) → (pGE y1 y2) → (mst x8.toInt x9.toInt x10.toInt) < (n : Int) → Ok (f_goes_274  n x2 x8 x9 x10 I A) (fun o => o.2 = (I, A) ∧ ((0 : Int) ≤ o.1.toInt ∧ o.1.toInt ≤ (1 : Int)) ∧ ((o.1.toInt = 1 → pGE y1 y2)) ∧ ((o.1.toInt = 1 → kk = 1 → pPG y1 y2))) := by
  intro n
  induction n with
  | zero => intro x2 x8 x9 x10 g0 g1 g2 g3 g4 g5 g6 g7  hm; exfalso; have := mst_nn (s := x10.toInt) g1 g2 ⟨by omega, by omega⟩; omega
  | succ n ih =>
    intro x2 x8 x9 x10 g0 g1 g2 g3 g4 g5 g6 g7  hm
    exact t_goes_274s (y1 := y1) (y2 := y2) (kk := kk)  (N274 := n)  ih hI hA g0 g1 g2 g3 g4 g5 g6 g7  (by omega)
theorem t_goes_262 {y1 y2 kk : Int} {ff rr : Int} {I : Nat → Int32} {A : Nat → Nat → Int32} {x1 : Int32} {x2 : Int32} {x8 : Int32} {t0 : Int32} (hI : TJ I) (hA : TK A) (r_x1 : (0 : Int) ≤ x1.toInt ∧ x1.toInt ≤ (63 : Int)) (r_x2 : (0 : Int) ≤ x2.toInt ∧ x2.toInt ≤ (63 : Int)) (r_x8 : (-1 : Int) ≤ x8.toInt ∧ x8.toInt ≤ (1 : Int)) (r_t0 : (-1 : Int) ≤ t0.toInt ∧ t0.toInt ≤ (1 : Int)) (q0 : gD x1.toInt x2.toInt ff rr y1 y2 kk) (q1 : gA ff rr) (q2 : gS x8.toInt ff) (q3 : gS t0.toInt rr) : Ok (f_goes_262 x1 x2 x8 t0 I A) (fun o => o.2 = (I, A) ∧ ((0 : Int) ≤ o.1.toInt ∧ o.1.toInt ≤ (1 : Int)) ∧ ((o.1.toInt = 1 → pGE y1 y2)) ∧ ((o.1.toInt = 1 → kk = 1 → pPG y1 y2))) := by
  unfold f_goes_262
  obtain ⟨r1, h_r1, p_r1⟩ := ro (t_step (x0 := x1) (x1 := x8) (x2 := t0)  hI hA r_x1 (by omega) (by omega))
  refine ok_clR h_r1 ?_
  dsimp only at p_r1
  have w1 := onw_start r_x1 r_x2 r_x8 r_t0 (gD_ne q0) (gD_al q0 q1) (gD_sx q0 q2) (gD_sy q0 q3) p_r1.2
  exact t_goes_274 (y1 := y1) (y2 := y2) (kk := kk)   hI hA mFuel x2 x8 t0 r1  r_x2 r_x8 r_t0 (by omega) w1.2.2 (by omega) (gD_k q0) (gD_ge q0 q1) (by apply mst_lt <;> omega)
theorem t_goes_241 {y1 y2 kk : Int} {ff : Int} {I : Nat → Int32} {A : Nat → Nat → Int32} {x1 : Int32} {x2 : Int32} {x5 : Int32} {t0 : Int32} (hI : TJ I) (hA : TK A) (r_x1 : (0 : Int) ≤ x1.toInt ∧ x1.toInt ≤ (63 : Int)) (r_x2 : (0 : Int) ≤ x2.toInt ∧ x2.toInt ≤ (63 : Int)) (r_x5 : (-7 : Int) ≤ x5.toInt ∧ x5.toInt ≤ (7 : Int)) (r_t0 : (-1 : Int) ≤ t0.toInt ∧ t0.toInt ≤ (1 : Int)) (q0 : gD x1.toInt x2.toInt ff x5.toInt y1 y2 kk) (q1 : gA ff x5.toInt) (q2 : gS t0.toInt ff) : Ok (f_goes_241 x1 x2 x5 t0 I A) (fun o => o.2 = (I, A) ∧ ((0 : Int) ≤ o.1.toInt ∧ o.1.toInt ≤ (1 : Int)) ∧ ((o.1.toInt = 1 → pGE y1 y2)) ∧ ((o.1.toInt = 1 → kk = 1 → pPG y1 y2))) := by
  unfold f_goes_241
  refine ok_if (fun c40 => ?_) (fun c40 => ?_)
  ·
    replace c40 := ti_leP c40 rfl (show (0 : Int32).toInt = 0 from rfl)
    refine ok_if (fun c41 => ?_) (fun c41 => ?_)
    ·
      replace c41 := ti_leP c41 (show (0 : Int32).toInt = 0 from rfl) rfl
      exact t_goes_262 (y1 := y1) (y2 := y2) (kk := kk)   (x1 := x1) (x2 := x2) (x8 := t0) (t0 := (0 : Int32)) hI hA r_x1 r_x2 r_t0 (by decide) q0 q1 q2 (by unfold gS; have z0 : (0 : Int32).toInt = 0 := rfl; have z1 : (1 : Int32).toInt = 1 := rfl; have z2 : (-1 : Int32).toInt = -1 := rfl; omega)
    ·
      replace c41 := ti_leN c41 (show (0 : Int32).toInt = 0 from rfl) rfl
      exact t_goes_262 (y1 := y1) (y2 := y2) (kk := kk)   (x1 := x1) (x2 := x2) (x8 := t0) (t0 := (-1 : Int32)) hI hA r_x1 r_x2 r_t0 (by decide) q0 q1 q2 (by unfold gS; have z0 : (0 : Int32).toInt = 0 := rfl; have z1 : (1 : Int32).toInt = 1 := rfl; have z2 : (-1 : Int32).toInt = -1 := rfl; omega)
  ·
    replace c40 := ti_leN c40 rfl (show (0 : Int32).toInt = 0 from rfl)
    exact t_goes_262 (y1 := y1) (y2 := y2) (kk := kk)   (x1 := x1) (x2 := x2) (x8 := t0) (t0 := (1 : Int32)) hI hA r_x1 r_x2 r_t0 (by decide) q0 q1 q2 (by unfold gS; have z0 : (0 : Int32).toInt = 0 := rfl; have z1 : (1 : Int32).toInt = 1 := rfl; have z2 : (-1 : Int32).toInt = -1 := rfl; omega)
theorem t_goes_222 {y1 y2 kk : Int} {I : Nat → Int32} {A : Nat → Nat → Int32} {x1 : Int32} {x2 : Int32} {x4 : Int32} {x5 : Int32} (hI : TJ I) (hA : TK A) (r_x1 : (0 : Int) ≤ x1.toInt ∧ x1.toInt ≤ (63 : Int)) (r_x2 : (0 : Int) ≤ x2.toInt ∧ x2.toInt ≤ (63 : Int)) (r_x4 : (-7 : Int) ≤ x4.toInt ∧ x4.toInt ≤ (7 : Int)) (r_x5 : (-7 : Int) ≤ x5.toInt ∧ x5.toInt ≤ (7 : Int)) (q0 : gD x1.toInt x2.toInt x4.toInt x5.toInt y1 y2 kk) (q1 : gA x4.toInt x5.toInt) : Ok (f_goes_222 x1 x2 x4 x5 I A) (fun o => o.2 = (I, A) ∧ ((0 : Int) ≤ o.1.toInt ∧ o.1.toInt ≤ (1 : Int)) ∧ ((o.1.toInt = 1 → pGE y1 y2)) ∧ ((o.1.toInt = 1 → kk = 1 → pPG y1 y2))) := by
  unfold f_goes_222
  refine ok_if (fun c42 => ?_) (fun c42 => ?_)
  ·
    replace c42 := ti_leP c42 rfl (show (0 : Int32).toInt = 0 from rfl)
    refine ok_if (fun c43 => ?_) (fun c43 => ?_)
    ·
      replace c43 := ti_leP c43 (show (0 : Int32).toInt = 0 from rfl) rfl
      exact t_goes_241 (y1 := y1) (y2 := y2) (kk := kk)   (x1 := x1) (x2 := x2) (x5 := x5) (t0 := (0 : Int32)) hI hA r_x1 r_x2 r_x5 (by decide) q0 q1 (by unfold gS; have z0 : (0 : Int32).toInt = 0 := rfl; have z1 : (1 : Int32).toInt = 1 := rfl; have z2 : (-1 : Int32).toInt = -1 := rfl; omega)
    ·
      replace c43 := ti_leN c43 (show (0 : Int32).toInt = 0 from rfl) rfl
      exact t_goes_241 (y1 := y1) (y2 := y2) (kk := kk)   (x1 := x1) (x2 := x2) (x5 := x5) (t0 := (-1 : Int32)) hI hA r_x1 r_x2 r_x5 (by decide) q0 q1 (by unfold gS; have z0 : (0 : Int32).toInt = 0 := rfl; have z1 : (1 : Int32).toInt = 1 := rfl; have z2 : (-1 : Int32).toInt = -1 := rfl; omega)
  ·
    replace c42 := ti_leN c42 rfl (show (0 : Int32).toInt = 0 from rfl)
    exact t_goes_241 (y1 := y1) (y2 := y2) (kk := kk)   (x1 := x1) (x2 := x2) (x5 := x5) (t0 := (1 : Int32)) hI hA r_x1 r_x2 r_x5 (by decide) q0 q1 (by unfold gS; have z0 : (0 : Int32).toInt = 0 := rfl; have z1 : (1 : Int32).toInt = 1 := rfl; have z2 : (-1 : Int32).toInt = -1 := rfl; omega)
theorem t_goes_210 {y1 y2 kk : Int} {I : Nat → Int32} {A : Nat → Nat → Int32} {x1 : Int32} {x2 : Int32} {x3 : Int32} {x4 : Int32} {x5 : Int32} {x7 : Int32} (hI : TJ I) (hA : TK A) (r_x1 : (0 : Int) ≤ x1.toInt ∧ x1.toInt ≤ (63 : Int)) (r_x2 : (0 : Int) ≤ x2.toInt ∧ x2.toInt ≤ (63 : Int)) (r_x3 : (0 : Int) ≤ x3.toInt ∧ x3.toInt ≤ (7 : Int)) (r_x4 : (-7 : Int) ≤ x4.toInt ∧ x4.toInt ≤ (7 : Int)) (r_x5 : (-7 : Int) ≤ x5.toInt ∧ x5.toInt ≤ (7 : Int)) (r_x7 : (0 : Int) ≤ x7.toInt ∧ x7.toInt ≤ (1 : Int)) (q0 : gD x1.toInt x2.toInt x4.toInt x5.toInt y1 y2 kk) (q1 : gA x4.toInt x5.toInt) : Ok (f_goes_210 x1 x2 x3 x4 x5 x7 I A) (fun o => o.2 = (I, A) ∧ ((0 : Int) ≤ o.1.toInt ∧ o.1.toInt ≤ (1 : Int)) ∧ ((o.1.toInt = 1 → pGE y1 y2)) ∧ ((o.1.toInt = 1 → kk = 1 → pPG y1 y2))) := by
  unfold f_goes_210
  refine ok_if (fun c44 => ?_) (fun c44 => ?_)
  ·
    replace c44 := ti_eqP c44 rfl (show (0 : Int32).toInt = 0 from rfl)
    refine ok_if (fun c45 => ?_) (fun c45 => ?_)
    ·
      replace c45 := ti_eqP c45 rfl (show (4 : Int32).toInt = 4 from rfl)
      unfold f_goes_220
      refine ok_chk (by decide) ?_
      exact ok_ret ⟨rfl, (show (0 : Int) ≤ (0 : Int32).toInt ∧ (0 : Int32).toInt ≤ (1 : Int) from (by decide)), (by show ((0 : Int32).toInt = 1 → pGE y1 y2); exact fun h => absurd h (by decide)), (by show ((0 : Int32).toInt = 1 → kk = 1 → pPG y1 y2); exact fun h => absurd h (by decide))⟩
    ·
      replace c45 := ti_eqN c45 rfl (show (4 : Int32).toInt = 4 from rfl)
      exact t_goes_222 (y1 := y1) (y2 := y2) (kk := kk)   (x1 := x1) (x2 := x2) (x4 := x4) (x5 := x5) hI hA r_x1 r_x2 r_x4 r_x5 q0 q1
  ·
    replace c44 := ti_eqN c44 rfl (show (0 : Int32).toInt = 0 from rfl)
    exact t_goes_222 (y1 := y1) (y2 := y2) (kk := kk)   (x1 := x1) (x2 := x2) (x4 := x4) (x5 := x5) hI hA r_x1 r_x2 r_x4 r_x5 q0 q1
theorem t_goes_200 {y1 y2 kk : Int} {I : Nat → Int32} {A : Nat → Nat → Int32} {x1 : Int32} {x2 : Int32} {x3 : Int32} {x4 : Int32} {x5 : Int32} {x7 : Int32} (hI : TJ I) (hA : TK A) (r_x1 : (0 : Int) ≤ x1.toInt ∧ x1.toInt ≤ (63 : Int)) (r_x2 : (0 : Int) ≤ x2.toInt ∧ x2.toInt ≤ (63 : Int)) (r_x3 : (0 : Int) ≤ x3.toInt ∧ x3.toInt ≤ (7 : Int)) (r_x4 : (-7 : Int) ≤ x4.toInt ∧ x4.toInt ≤ (7 : Int)) (r_x5 : (-7 : Int) ≤ x5.toInt ∧ x5.toInt ≤ (7 : Int)) (r_x7 : (0 : Int) ≤ x7.toInt ∧ x7.toInt ≤ (1 : Int)) (q0 : gD x1.toInt x2.toInt x4.toInt x5.toInt y1 y2 kk) (q1 : gA x4.toInt x5.toInt) : Ok (f_goes_200 x1 x2 x3 x4 x5 x7 I A) (fun o => o.2 = (I, A) ∧ ((0 : Int) ≤ o.1.toInt ∧ o.1.toInt ≤ (1 : Int)) ∧ ((o.1.toInt = 1 → pGE y1 y2)) ∧ ((o.1.toInt = 1 → kk = 1 → pPG y1 y2))) := by
  unfold f_goes_200
  refine ok_if (fun c46 => ?_) (fun c46 => ?_)
  ·
    replace c46 := ti_eqP c46 rfl (show (0 : Int32).toInt = 0 from rfl)
    exact t_goes_210 (y1 := y1) (y2 := y2) (kk := kk)   (x1 := x1) (x2 := x2) (x3 := x3) (x4 := x4) (x5 := x5) (x7 := x7) hI hA r_x1 r_x2 r_x3 r_x4 r_x5 r_x7 q0 q1
  ·
    replace c46 := ti_eqN c46 rfl (show (0 : Int32).toInt = 0 from rfl)
    refine ok_if (fun c47 => ?_) (fun c47 => ?_)
    ·
      replace c47 := ti_eqP c47 rfl (show (3 : Int32).toInt = 3 from rfl)
      unfold f_goes_220
      refine ok_chk (by decide) ?_
      exact ok_ret ⟨rfl, (show (0 : Int) ≤ (0 : Int32).toInt ∧ (0 : Int32).toInt ≤ (1 : Int) from (by decide)), (by show ((0 : Int32).toInt = 1 → pGE y1 y2); exact fun h => absurd h (by decide)), (by show ((0 : Int32).toInt = 1 → kk = 1 → pPG y1 y2); exact fun h => absurd h (by decide))⟩
    ·
      replace c47 := ti_eqN c47 rfl (show (3 : Int32).toInt = 3 from rfl)
      exact t_goes_210 (y1 := y1) (y2 := y2) (kk := kk)   (x1 := x1) (x2 := x2) (x3 := x3) (x4 := x4) (x5 := x5) (x7 := x7) hI hA r_x1 r_x2 r_x3 r_x4 r_x5 r_x7 q0 q1
theorem t_goes_178 {y1 y2 kk : Int} {I : Nat → Int32} {A : Nat → Nat → Int32} {x1 : Int32} {x2 : Int32} {x3 : Int32} {x4 : Int32} {x5 : Int32} {t0 : Int32} (hI : TJ I) (hA : TK A) (r_x1 : (0 : Int) ≤ x1.toInt ∧ x1.toInt ≤ (63 : Int)) (r_x2 : (0 : Int) ≤ x2.toInt ∧ x2.toInt ≤ (63 : Int)) (r_x3 : (0 : Int) ≤ x3.toInt ∧ x3.toInt ≤ (7 : Int)) (r_x4 : (-7 : Int) ≤ x4.toInt ∧ x4.toInt ≤ (7 : Int)) (r_x5 : (-7 : Int) ≤ x5.toInt ∧ x5.toInt ≤ (7 : Int)) (r_t0 : (0 : Int) ≤ t0.toInt ∧ t0.toInt ≤ (1 : Int)) (q0 : gD x1.toInt x2.toInt x4.toInt x5.toInt y1 y2 kk) (q1 : (t0.toInt = 1 → x4.toInt = 0 ∨ x5.toInt = 0)) : Ok (f_goes_178 x1 x2 x3 x4 x5 t0 I A) (fun o => o.2 = (I, A) ∧ ((0 : Int) ≤ o.1.toInt ∧ o.1.toInt ≤ (1 : Int)) ∧ ((o.1.toInt = 1 → pGE y1 y2)) ∧ ((o.1.toInt = 1 → kk = 1 → pPG y1 y2))) := by
  unfold f_goes_178
  refine ok_if (fun c48 => ?_) (fun c48 => ?_)
  ·
    replace c48 := ti_eqP c48 rfl (show (0 : Int32).toInt = 0 from rfl)
    refine ok_if (fun c49 => ?_) (fun c49 => ?_)
    ·
      replace c49 := ti_eqP c49 rfl rfl
      exact t_goes_200 (y1 := y1) (y2 := y2) (kk := kk)   (x1 := x1) (x2 := x2) (x3 := x3) (x4 := x4) (x5 := x5) (x7 := t0) hI hA r_x1 r_x2 r_x3 r_x4 r_x5 r_t0 q0 (by unfold gA; omega)
    ·
      replace c49 := ti_eqN c49 rfl rfl
      refine ok_bnd (fun v1 e50 => ?_)
      have t_v1 : v1.toInt = -x5.toInt := ti_neg e50 rfl (by omega)
      refine ok_if (fun c51 => ?_) (fun c51 => ?_)
      ·
        replace c51 := ti_eqP c51 rfl rfl
        exact t_goes_200 (y1 := y1) (y2 := y2) (kk := kk)   (x1 := x1) (x2 := x2) (x3 := x3) (x4 := x4) (x5 := x5) (x7 := t0) hI hA r_x1 r_x2 r_x3 r_x4 r_x5 r_t0 q0 (by unfold gA; omega)
      ·
        replace c51 := ti_eqN c51 rfl rfl
        unfold f_goes_220
        refine ok_chk (by decide) ?_
        exact ok_ret ⟨rfl, (show (0 : Int) ≤ (0 : Int32).toInt ∧ (0 : Int32).toInt ≤ (1 : Int) from (by decide)), (by show ((0 : Int32).toInt = 1 → pGE y1 y2); exact fun h => absurd h (by decide)), (by show ((0 : Int32).toInt = 1 → kk = 1 → pPG y1 y2); exact fun h => absurd h (by decide))⟩
  ·
    replace c48 := ti_eqN c48 rfl (show (0 : Int32).toInt = 0 from rfl)
    exact t_goes_200 (y1 := y1) (y2 := y2) (kk := kk)   (x1 := x1) (x2 := x2) (x3 := x3) (x4 := x4) (x5 := x5) (x7 := t0) hI hA r_x1 r_x2 r_x3 r_x4 r_x5 r_t0 q0 (by unfold gA; omega)
theorem t_goes_0 {y1 y2 kk : Int} {I : Nat → Int32} {A : Nat → Nat → Int32} {x1 : Int32} {x2 : Int32} (hI : TJ I) (hA : TK A) (r_x1 : (0 : Int) ≤ x1.toInt ∧ x1.toInt ≤ (63 : Int)) (r_x2 : (0 : Int) ≤ x2.toInt ∧ x2.toInt ≤ (63 : Int)) (q0 : y1 = x1.toInt ∧ y2 = x2.toInt) (q1 : kk = ((A 24 (x1).toNatClampNeg) &&& (7 : Int32)).toInt) : Ok (f_goes_0 x1 x2 I A) (fun o => o.2 = (I, A) ∧ ((0 : Int) ≤ o.1.toInt ∧ o.1.toInt ≤ (1 : Int)) ∧ ((o.1.toInt = 1 → pGE y1 y2)) ∧ ((o.1.toInt = 1 → kk = 1 → pPG y1 y2))) := by
  unfold f_goes_0
  refine ok_chk (ti_in (by omega) (by omega)) ?_
  refine ok_bnd (fun v1 e52 => ?_)
  obtain ⟨r2, h_r2, p_r2⟩ := ro (t_sideOf (x0 := v1)  hI hA )
  refine ok_clR h_r2 ?_
  have b_I_25 := tI_25 hI
  refine ok_if (fun c53 => ?_) (fun c53 => ?_)
  ·
    replace c53 := ti_eqP c53 rfl rfl
    refine ok_chk (ti_in (by omega) (by omega)) ?_
    refine ok_bnd (fun v3 e54 => ?_)
    obtain ⟨r4, h_r4, p_r4⟩ := ro (t_sideOf (x0 := v3)  hI hA )
    refine ok_clR h_r4 ?_
    refine ok_if (fun c55 => ?_) (fun c55 => ?_)
    ·
      replace c55 := ti_eqP c55 rfl rfl
      unfold f_goes_37
      refine ok_chk (by decide) ?_
      exact ok_ret ⟨rfl, (show (0 : Int) ≤ (0 : Int32).toInt ∧ (0 : Int32).toInt ≤ (1 : Int) from (by decide)), (by show ((0 : Int32).toInt = 1 → pGE y1 y2); exact fun h => absurd h (by decide)), (by show ((0 : Int32).toInt = 1 → kk = 1 → pPG y1 y2); exact fun h => absurd h (by decide))⟩
    ·
      replace c55 := ti_eqN c55 rfl rfl
      refine ok_if (fun c56 => ?_) (fun c56 => ?_)
      ·
        replace c56 := ti_eqP c56 rfl rfl
        unfold f_goes_37
        refine ok_chk (by decide) ?_
        exact ok_ret ⟨rfl, (show (0 : Int) ≤ (0 : Int32).toInt ∧ (0 : Int32).toInt ≤ (1 : Int) from (by decide)), (by show ((0 : Int32).toInt = 1 → pGE y1 y2); exact fun h => absurd h (by decide)), (by show ((0 : Int32).toInt = 1 → kk = 1 → pPG y1 y2); exact fun h => absurd h (by decide))⟩
      ·
        replace c56 := ti_eqN c56 rfl rfl
        refine ok_chk (ti_in (by omega) (by omega)) ?_
        refine ok_bnd (fun v5 e57 => ?_)
        obtain ⟨r6, h_r6, p_r6⟩ := ro (t_kind (x0 := v5)  hI hA )
        refine ok_clR h_r6 ?_
        dsimp only at p_r6
        have k6 : kk = r6.toInt := by rw [q1, p_r6.2, e57]
        refine ok_if (fun c58 => ?_) (fun c58 => ?_)
        ·
          replace c58 := ti_eqP c58 rfl (show (1 : Int32).toInt = 1 from rfl)
          obtain ⟨r19, h_r19, p_r19⟩ := ro (t_pawnGoes (x1 := x1) (x2 := x2)  hI hA r_x1 r_x2)
          refine ok_clR h_r19 ?_
          dsimp only at p_r19
          refine ok_chk (nar_b (by omega) (by omega)) ?_
          exact ok_ret ⟨rfl, (show (0 : Int) ≤ r19.toInt ∧ r19.toInt ≤ (1 : Int) from (by omega)), (by show ((r19 : Int32).toInt = 1 → pGE y1 y2); intro h; rw [q0.1, q0.2]; exact pPG_GE r_x1 r_x2 (p_r19.2 h)), (by show ((r19 : Int32).toInt = 1 → kk = 1 → pPG y1 y2); intro h h2; first | (exfalso; omega) | (rw [q0.1, q0.2]; exact p_r19.2 h))⟩
        ·
          replace c58 := ti_eqN c58 rfl (show (1 : Int32).toInt = 1 from rfl)
          refine ok_bnd (fun v7 e59 => ?_)
          have t_v7 : v7.toInt = x2.toInt % 8 := ti_rem e59 rfl (show (8 : Int32).toInt = 8 from rfl) (by omega) (by decide)
          refine ok_bnd (fun v8 e60 => ?_)
          have t_v8 : v8.toInt = x1.toInt % 8 := ti_rem e60 rfl (show (8 : Int32).toInt = 8 from rfl) (by omega) (by decide)
          refine ok_bnd (fun v9 e61 => ?_)
          have t_v9 : v9.toInt = v7.toInt - v8.toInt := ti_sub e61 rfl rfl (by omega) (by omega)
          refine ok_bnd (fun v10 e62 => ?_)
          have t_v10 : v10.toInt = x2.toInt / 8 := ti_div e62 rfl (show (8 : Int32).toInt = 8 from rfl) (by omega) (by decide)
          refine ok_bnd (fun v11 e63 => ?_)
          have t_v11 : v11.toInt = x1.toInt / 8 := ti_div e63 rfl (show (8 : Int32).toInt = 8 from rfl) (by omega) (by decide)
          refine ok_bnd (fun v12 e64 => ?_)
          have t_v12 : v12.toInt = v10.toInt - v11.toInt := ti_sub e64 rfl rfl (by omega) (by omega)
          refine ok_bnd (fun v13 e65 => ?_)
          have t_v13 := ti_sq e65 (by omega) (by omega)
          refine ok_bnd (fun v14 e66 => ?_)
          have t_v14 := ti_sq e66 (by omega) (by omega)
          refine ok_bnd (fun v15 e67 => ?_)
          have t_v15 : v15.toInt = v13.toInt + v14.toInt := ti_add e67 rfl rfl (by omega) (by omega)
          refine ok_if (fun c68 => ?_) (fun c68 => ?_)
          ·
            replace c68 := ti_eqP c68 rfl (show (2 : Int32).toInt = 2 from rfl)
            refine ok_if (fun c69 => ?_) (fun c69 => ?_)
            ·
              replace c69 := ti_eqP c69 rfl (show (5 : Int32).toInt = 5 from rfl)
              unfold f_goes_112
              refine ok_chk (by decide) ?_
              exact ok_ret ⟨rfl, (show (0 : Int) ≤ (1 : Int32).toInt ∧ (1 : Int32).toInt ≤ (1 : Int) from (by decide)), (by show ((1 : Int32).toInt = 1 → pGE y1 y2); intro h; unfold pGE; omega), (by show ((1 : Int32).toInt = 1 → kk = 1 → pPG y1 y2); intro h h2; first | (exfalso; omega) | (rw [q0.1, q0.2]; exact p_r19.2 h))⟩
            ·
              replace c69 := ti_eqN c69 rfl (show (5 : Int32).toInt = 5 from rfl)
              unfold f_goes_112
              refine ok_chk (by decide) ?_
              exact ok_ret ⟨rfl, (show (0 : Int) ≤ (0 : Int32).toInt ∧ (0 : Int32).toInt ≤ (1 : Int) from (by decide)), (by show ((0 : Int32).toInt = 1 → pGE y1 y2); exact fun h => absurd h (by decide)), (by show ((0 : Int32).toInt = 1 → kk = 1 → pPG y1 y2); exact fun h => absurd h (by decide))⟩
          ·
            replace c68 := ti_eqN c68 rfl (show (2 : Int32).toInt = 2 from rfl)
            refine ok_if (fun c70 => ?_) (fun c70 => ?_)
            ·
              replace c70 := ti_eqP c70 rfl (show (6 : Int32).toInt = 6 from rfl)
              refine ok_if (fun c71 => ?_) (fun c71 => ?_)
              ·
                replace c71 := ti_ltP c71 rfl (show (3 : Int32).toInt = 3 from rfl)
                unfold f_goes_157
                unfold f_goes_162
                refine ok_chk (by decide) ?_
                exact ok_ret ⟨rfl, (show (0 : Int) ≤ (1 : Int32).toInt ∧ (1 : Int32).toInt ≤ (1 : Int) from (by decide)), (by show ((1 : Int32).toInt = 1 → pGE y1 y2); intro h; unfold pGE; omega), (by show ((1 : Int32).toInt = 1 → kk = 1 → pPG y1 y2); intro h h2; first | (exfalso; omega) | (rw [q0.1, q0.2]; exact p_r19.2 h))⟩
              ·
                replace c71 := ti_ltN c71 rfl (show (3 : Int32).toInt = 3 from rfl)
                refine ok_bnd (fun v16 e72 => ?_)
                have t_v16 : v16.toInt = 56 * (I 25).toInt := ti_mul e72 (show (56 : Int32).toInt = 56 from rfl) rfl (by omega) (by omega)
                refine ok_bnd (fun v17 e73 => ?_)
                have t_v17 : v17.toInt = 4 + v16.toInt := ti_add e73 (show (4 : Int32).toInt = 4 from rfl) rfl (by omega) (by omega)
                refine ok_if (fun c74 => ?_) (fun c74 => ?_)
                ·
                  replace c74 := ti_eqP c74 rfl rfl
                  refine ok_if (fun c75 => ?_) (fun c75 => ?_)
                  ·
                    replace c75 := ti_eqP c75 rfl (show (0 : Int32).toInt = 0 from rfl)
                    refine ok_if (fun c76 => ?_) (fun c76 => ?_)
                    ·
                      replace c76 := ti_eqP c76 rfl (show (4 : Int32).toInt = 4 from rfl)
                      obtain ⟨r18, h_r18, p_r18⟩ := ro (t_mayCastle (x1 := x2)  hI hA r_x2)
                      refine ok_clR h_r18 ?_
                      dsimp only at p_r18
                      refine ok_if (fun c77 => ?_) (fun c77 => ?_)
                      ·
                        replace c77 := ti_eqP c77 rfl (show (0 : Int32).toInt = 0 from rfl)
                        unfold f_goes_161
                        unfold f_goes_162
                        refine ok_chk (by decide) ?_
                        exact ok_ret ⟨rfl, (show (0 : Int) ≤ (0 : Int32).toInt ∧ (0 : Int32).toInt ≤ (1 : Int) from (by decide)), (by show ((0 : Int32).toInt = 1 → pGE y1 y2); exact fun h => absurd h (by decide)), (by show ((0 : Int32).toInt = 1 → kk = 1 → pPG y1 y2); exact fun h => absurd h (by decide))⟩
                      ·
                        replace c77 := ti_eqN c77 rfl (show (0 : Int32).toInt = 0 from rfl)
                        unfold f_goes_157
                        unfold f_goes_162
                        refine ok_chk (by decide) ?_
                        exact ok_ret ⟨rfl, (show (0 : Int) ≤ (1 : Int32).toInt ∧ (1 : Int32).toInt ≤ (1 : Int) from (by decide)), (by show ((1 : Int32).toInt = 1 → pGE y1 y2); intro h; unfold pGE; omega), (by show ((1 : Int32).toInt = 1 → kk = 1 → pPG y1 y2); intro h h2; first | (exfalso; omega) | (rw [q0.1, q0.2]; exact p_r19.2 h))⟩
                    ·
                      replace c76 := ti_eqN c76 rfl (show (4 : Int32).toInt = 4 from rfl)
                      unfold f_goes_161
                      unfold f_goes_162
                      refine ok_chk (by decide) ?_
                      exact ok_ret ⟨rfl, (show (0 : Int) ≤ (0 : Int32).toInt ∧ (0 : Int32).toInt ≤ (1 : Int) from (by decide)), (by show ((0 : Int32).toInt = 1 → pGE y1 y2); exact fun h => absurd h (by decide)), (by show ((0 : Int32).toInt = 1 → kk = 1 → pPG y1 y2); exact fun h => absurd h (by decide))⟩
                  ·
                    replace c75 := ti_eqN c75 rfl (show (0 : Int32).toInt = 0 from rfl)
                    unfold f_goes_161
                    unfold f_goes_162
                    refine ok_chk (by decide) ?_
                    exact ok_ret ⟨rfl, (show (0 : Int) ≤ (0 : Int32).toInt ∧ (0 : Int32).toInt ≤ (1 : Int) from (by decide)), (by show ((0 : Int32).toInt = 1 → pGE y1 y2); exact fun h => absurd h (by decide)), (by show ((0 : Int32).toInt = 1 → kk = 1 → pPG y1 y2); exact fun h => absurd h (by decide))⟩
                ·
                  replace c74 := ti_eqN c74 rfl rfl
                  unfold f_goes_161
                  unfold f_goes_162
                  refine ok_chk (by decide) ?_
                  exact ok_ret ⟨rfl, (show (0 : Int) ≤ (0 : Int32).toInt ∧ (0 : Int32).toInt ≤ (1 : Int) from (by decide)), (by show ((0 : Int32).toInt = 1 → pGE y1 y2); exact fun h => absurd h (by decide)), (by show ((0 : Int32).toInt = 1 → kk = 1 → pPG y1 y2); exact fun h => absurd h (by decide))⟩
            ·
              replace c70 := ti_eqN c70 rfl (show (6 : Int32).toInt = 6 from rfl)
              refine ok_if (fun c78 => ?_) (fun c78 => ?_)
              ·
                replace c78 := ti_eqP c78 rfl (show (0 : Int32).toInt = 0 from rfl)
                unfold f_goes_173
                exact t_goes_178 (y1 := y1) (y2 := y2) (kk := kk)   (x1 := x1) (x2 := x2) (x3 := r6) (x4 := v9) (x5 := v12) (t0 := (1 : Int32)) hI hA r_x1 r_x2 (by omega) (by omega) (by omega) (by decide) (by unfold gD; omega) (by have z0 : (1 : Int32).toInt = 1 := rfl; omega)
              ·
                replace c78 := ti_eqN c78 rfl (show (0 : Int32).toInt = 0 from rfl)
                refine ok_if (fun c79 => ?_) (fun c79 => ?_)
                ·
                  replace c79 := ti_eqP c79 rfl (show (0 : Int32).toInt = 0 from rfl)
                  unfold f_goes_173
                  exact t_goes_178 (y1 := y1) (y2 := y2) (kk := kk)   (x1 := x1) (x2 := x2) (x3 := r6) (x4 := v9) (x5 := v12) (t0 := (1 : Int32)) hI hA r_x1 r_x2 (by omega) (by omega) (by omega) (by decide) (by unfold gD; omega) (by have z0 : (1 : Int32).toInt = 1 := rfl; omega)
                ·
                  replace c79 := ti_eqN c79 rfl (show (0 : Int32).toInt = 0 from rfl)
                  exact t_goes_178 (y1 := y1) (y2 := y2) (kk := kk)   (x1 := x1) (x2 := x2) (x3 := r6) (x4 := v9) (x5 := v12) (t0 := (0 : Int32)) hI hA r_x1 r_x2 (by omega) (by omega) (by omega) (by decide) (by unfold gD; omega) (by have z0 : (0 : Int32).toInt = 0 := rfl; omega)
  ·
    replace c53 := ti_eqN c53 rfl rfl
    unfold f_goes_37
    refine ok_chk (by decide) ?_
    exact ok_ret ⟨rfl, (show (0 : Int) ≤ (0 : Int32).toInt ∧ (0 : Int32).toInt ≤ (1 : Int) from (by decide)), (by show ((0 : Int32).toInt = 1 → pGE y1 y2); exact fun h => absurd h (by decide)), (by show ((0 : Int32).toInt = 1 → kk = 1 → pPG y1 y2); exact fun h => absurd h (by decide))⟩
theorem t_goes {y1 y2 kk : Int} {I : Nat → Int32} {A : Nat → Nat → Int32} {x1 : Int32} {x2 : Int32} (hI : TJ I) (hA : TK A) (r_x1 : (0 : Int) ≤ x1.toInt ∧ x1.toInt ≤ (63 : Int)) (r_x2 : (0 : Int) ≤ x2.toInt ∧ x2.toInt ≤ (63 : Int)) (q0 : y1 = x1.toInt ∧ y2 = x2.toInt) (q1 : kk = ((A 24 (x1).toNatClampNeg) &&& (7 : Int32)).toInt) : Ok (f_goes x1 x2 I A) (fun o => o.2 = (I, A) ∧ ((0 : Int) ≤ o.1.toInt ∧ o.1.toInt ≤ (1 : Int)) ∧ ((o.1.toInt = 1 → pGE y1 y2)) ∧ ((o.1.toInt = 1 → kk = 1 → pPG y1 y2))) := t_goes_0 (y1 := y1) (y2 := y2) (kk := kk) hI hA r_x1 r_x2 q0 q1
