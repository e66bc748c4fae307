section
noncomputable def mst (dx dy s : Int) : Int := if s < 0 then 0 else 17 - (dx * (s % 8) + dy * (s / 8))
theorem mst_nn {dx dy s : Int} (h1 : -1 ≤ dx ∧ dx ≤ 1) (h2 : -1 ≤ dy ∧ dy ≤ 1) (h3 : -1 ≤ s ∧ s ≤ 63) : 0 ≤ mst dx dy s := by
  unfold mst
  split
  · omega
  · have hx : dx = -1 ∨ dx = 0 ∨ dx = 1 := by omega
    have hy : dy = -1 ∨ dy = 0 ∨ dy = 1 := by omega
    rcases hx with h | h | h <;> rcases hy with h' | h' | h' <;> subst h <;> subst h' <;> omega
theorem mst_lt {dx dy s : Int} (h1 : -1 ≤ dx ∧ dx ≤ 1) (h2 : -1 ≤ dy ∧ dy ≤ 1) (h3 : -1 ≤ s ∧ s ≤ 63) : mst dx dy s < ((200000 : Nat) : Int) := by
  unfold mst
  split
  · omega
  · have hx : dx = -1 ∨ dx = 0 ∨ dx = 1 := by omega
    have hy : dy = -1 ∨ dy = 0 ∨ dy = 1 := by omega
    rcases hx with h | h | h <;> rcases hy with h' | h' | h' <;> subst h <;> subst h' <;> omega
theorem mst_dec {dx dy s r : Int} (h1 : -1 ≤ dx ∧ dx ≤ 1) (h2 : -1 ≤ dy ∧ dy ≤ 1) (h0 : dx ≠ 0 ∨ dy ≠ 0) (h3 : 0 ≤ s ∧ s ≤ 63) (h : (0 ≤ s % 8 + dx ∧ s % 8 + dx < 8 ∧ 0 ≤ s / 8 + dy ∧ s / 8 + dy < 8 ∧ r = 8 * (s / 8 + dy) + (s % 8 + dx)) ∨ (r = -1 ∧ (s % 8 + dx < 0 ∨ 8 ≤ s % 8 + dx ∨ s / 8 + dy < 0 ∨ 8 ≤ s / 8 + dy))) : mst dx dy r < mst dx dy s := by
  have hs : mst dx dy s = 17 - (dx * (s % 8) + dy * (s / 8)) := by unfold mst; rw [if_neg (by omega)]
  have hx : dx = -1 ∨ dx = 0 ∨ dx = 1 := by omega
  have hy : dy = -1 ∨ dy = 0 ∨ dy = 1 := by omega
  rcases h with ⟨a1, a2, a3, a4, e⟩ | ⟨e, -⟩
  · have hr : mst dx dy r = 17 - (dx * (r % 8) + dy * (r / 8)) := by unfold mst; rw [if_neg (by omega)]
    have e1 : r % 8 = s % 8 + dx := by omega
    have e2 : r / 8 = s / 8 + dy := by omega
    rw [hr, hs, e1, e2]
    rcases hx with h | h | h <;> rcases hy with h' | h' | h' <;> subst h <;> subst h' <;> omega
  · have hr : mst dx dy r = 0 := by unfold mst; rw [if_pos (by omega)]
    rw [hr, hs]
    rcases hx with h | h | h <;> rcases hy with h' | h' | h' <;> subst h <;> subst h' <;> omega
theorem t_kind_0  {I : Nat → Int32} {A : Nat → Nat → Int32} {x0 : Int32} (hI : TJ I) (hA : TK A) : Ok (f_kind_0 x0 I A) (fun o => o.2 = (I, A) ∧ ((0 : Int) ≤ o.1.toInt ∧ o.1.toInt ≤ (7 : Int)) ∧ (o.1 = x0 &&& (7 : Int32))) := by
  unfold f_kind_0
  refine ok_bnd (fun v1 e1 => ?_)
  have t_v1 := ti_and e1 (show (7 : Int32).toBitVec.toNat = 7 from rfl) (by decide)
  exact ok_ret ⟨rfl, (show (0 : Int) ≤ v1.toInt ∧ v1.toInt ≤ (7 : Int) from (by omega)), (by show (v1 : Int32) = x0 &&& (7 : Int32); assumption)⟩
theorem t_kind  {I : Nat → Int32} {A : Nat → Nat → Int32} {x0 : Int32} (hI : TJ I) (hA : TK A) : Ok (f_kind x0 I A) (fun o => o.2 = (I, A) ∧ ((0 : Int) ≤ o.1.toInt ∧ o.1.toInt ≤ (7 : Int)) ∧ (o.1 = x0 &&& (7 : Int32))) := t_kind_0  hI hA 
theorem t_sideOf_0  {I : Nat → Int32} {A : Nat → Nat → Int32} {x0 : Int32} (hI : TJ I) (hA : TK A) : Ok (f_sideOf_0 x0 I A) (fun o => o.2 = (I, A) ∧ True) := by
  unfold f_sideOf_0
  refine ok_if (fun c2 => ?_) (fun c2 => ?_)
  ·
    replace c2 := ti_eqP c2 rfl (show (0 : Int32).toInt = 0 from rfl)
    unfold f_sideOf_11
    exact ok_ret ⟨rfl, trivial⟩
  ·
    replace c2 := ti_eqN c2 rfl (show (0 : Int32).toInt = 0 from rfl)
    refine ok_bnd (fun v1 e3 => ?_)
    unfold f_sideOf_11
    exact ok_ret ⟨rfl, trivial⟩
theorem t_sideOf  {I : Nat → Int32} {A : Nat → Nat → Int32} {x0 : Int32} (hI : TJ I) (hA : TK A) : Ok (f_sideOf x0 I A) (fun o => o.2 = (I, A) ∧ True) := t_sideOf_0  hI hA 
theorem t_step_0  {I : Nat → Int32} {A : Nat → Nat → Int32} {x0 : Int32} {x1 : Int32} {x2 : Int32} (hI : TJ I) (hA : TK A) (r_x0 : (0 : Int) ≤ x0.toInt ∧ x0.toInt ≤ (63 : Int)) (r_x1 : (-2 : Int) ≤ x1.toInt ∧ x1.toInt ≤ (2 : Int)) (r_x2 : (-2 : Int) ≤ x2.toInt ∧ x2.toInt ≤ (2 : Int)) : Ok (f_step_0 x0 x1 x2 I A) (fun o => o.2 = (I, A) ∧ ((-1 : Int) ≤ o.1.toInt ∧ o.1.toInt ≤ (63 : Int)) ∧ (((0 ≤ x0.toInt % 8 + x1.toInt ∧ x0.toInt % 8 + x1.toInt < 8 ∧ 0 ≤ x0.toInt / 8 + x2.toInt ∧ x0.toInt / 8 + x2.toInt < 8 ∧ o.1.toInt = 8 * (x0.toInt / 8 + x2.toInt) + (x0.toInt % 8 + x1.toInt)) ∨ (o.1.toInt = -1 ∧ (x0.toInt % 8 + x1.toInt < 0 ∨ 8 ≤ x0.toInt % 8 + x1.toInt ∨ x0.toInt / 8 + x2.toInt < 0 ∨ 8 ≤ x0.toInt / 8 + x2.toInt))))) := by
  unfold f_step_0
  refine ok_bnd (fun v1 e4 => ?_)
  have t_v1 : v1.toInt = x0.toInt % 8 := ti_rem e4 rfl (show (8 : Int32).toInt = 8 from rfl) (by omega) (by decide)
  refine ok_bnd (fun v2 e5 => ?_)
  have t_v2 : v2.toInt = v1.toInt + x1.toInt := ti_add e5 rfl rfl (by omega) (by omega)
  refine ok_bnd (fun v3 e6 => ?_)
  have t_v3 : v3.toInt = x0.toInt / 8 := ti_div e6 rfl (show (8 : Int32).toInt = 8 from rfl) (by omega) (by decide)
  refine ok_bnd (fun v4 e7 => ?_)
  have t_v4 : v4.toInt = v3.toInt + x2.toInt := ti_add e7 rfl rfl (by omega) (by omega)
  refine ok_if (fun c8 => ?_) (fun c8 => ?_)
  ·
    replace c8 := ti_ltP c8 rfl (show (0 : Int32).toInt = 0 from rfl)
    unfold f_step_47
    unfold f_step_48
    exact ok_ret ⟨rfl, (show (-1 : Int) ≤ (-1 : Int32).toInt ∧ (-1 : Int32).toInt ≤ (63 : Int) from (by decide)), (by show ((0 ≤ x0.toInt % 8 + x1.toInt ∧ x0.toInt % 8 + x1.toInt < 8 ∧ 0 ≤ x0.toInt / 8 + x2.toInt ∧ x0.toInt / 8 + x2.toInt < 8 ∧ (-1 : Int32).toInt = 8 * (x0.toInt / 8 + x2.toInt) + (x0.toInt % 8 + x1.toInt)) ∨ ((-1 : Int32).toInt = -1 ∧ (x0.toInt % 8 + x1.toInt < 0 ∨ 8 ≤ x0.toInt % 8 + x1.toInt ∨ x0.toInt / 8 + x2.toInt < 0 ∨ 8 ≤ x0.toInt / 8 + x2.toInt))); have z : (-1 : Int32).toInt = -1 := rfl; omega)⟩
  ·
    replace c8 := ti_ltN c8 rfl (show (0 : Int32).toInt = 0 from rfl)
    refine ok_if (fun c9 => ?_) (fun c9 => ?_)
    ·
      replace c9 := ti_leP c9 (show (8 : Int32).toInt = 8 from rfl) rfl
      unfold f_step_47
      unfold f_step_48
      exact ok_ret ⟨rfl, (show (-1 : Int) ≤ (-1 : Int32).toInt ∧ (-1 : Int32).toInt ≤ (63 : Int) from (by decide)), (by show ((0 ≤ x0.toInt % 8 + x1.toInt ∧ x0.toInt % 8 + x1.toInt < 8 ∧ 0 ≤ x0.toInt / 8 + x2.toInt ∧ x0.toInt / 8 + x2.toInt < 8 ∧ (-1 : Int32).toInt = 8 * (x0.toInt / 8 + x2.toInt) + (x0.toInt % 8 + x1.toInt)) ∨ ((-1 : Int32).toInt = -1 ∧ (x0.toInt % 8 + x1.toInt < 0 ∨ 8 ≤ x0.toInt % 8 + x1.toInt ∨ x0.toInt / 8 + x2.toInt < 0 ∨ 8 ≤ x0.toInt / 8 + x2.toInt))); have z : (-1 : Int32).toInt = -1 := rfl; omega)⟩
    ·
      replace c9 := ti_leN c9 (show (8 : Int32).toInt = 8 from rfl) rfl
      refine ok_if (fun c10 => ?_) (fun c10 => ?_)
      ·
        replace c10 := ti_ltP c10 rfl (show (0 : Int32).toInt = 0 from rfl)
        unfold f_step_47
        unfold f_step_48
        exact ok_ret ⟨rfl, (show (-1 : Int) ≤ (-1 : Int32).toInt ∧ (-1 : Int32).toInt ≤ (63 : Int) from (by decide)), (by show ((0 ≤ x0.toInt % 8 + x1.toInt ∧ x0.toInt % 8 + x1.toInt < 8 ∧ 0 ≤ x0.toInt / 8 + x2.toInt ∧ x0.toInt / 8 + x2.toInt < 8 ∧ (-1 : Int32).toInt = 8 * (x0.toInt / 8 + x2.toInt) + (x0.toInt % 8 + x1.toInt)) ∨ ((-1 : Int32).toInt = -1 ∧ (x0.toInt % 8 + x1.toInt < 0 ∨ 8 ≤ x0.toInt % 8 + x1.toInt ∨ x0.toInt / 8 + x2.toInt < 0 ∨ 8 ≤ x0.toInt / 8 + x2.toInt))); have z : (-1 : Int32).toInt = -1 := rfl; omega)⟩
      ·
        replace c10 := ti_ltN c10 rfl (show (0 : Int32).toInt = 0 from rfl)
        refine ok_if (fun c11 => ?_) (fun c11 => ?_)
        ·
          replace c11 := ti_leP c11 (show (8 : Int32).toInt = 8 from rfl) rfl
          unfold f_step_47
          unfold f_step_48
          exact ok_ret ⟨rfl, (show (-1 : Int) ≤ (-1 : Int32).toInt ∧ (-1 : Int32).toInt ≤ (63 : Int) from (by decide)), (by show ((0 ≤ x0.toInt % 8 + x1.toInt ∧ x0.toInt % 8 + x1.toInt < 8 ∧ 0 ≤ x0.toInt / 8 + x2.toInt ∧ x0.toInt / 8 + x2.toInt < 8 ∧ (-1 : Int32).toInt = 8 * (x0.toInt / 8 + x2.toInt) + (x0.toInt % 8 + x1.toInt)) ∨ ((-1 : Int32).toInt = -1 ∧ (x0.toInt % 8 + x1.toInt < 0 ∨ 8 ≤ x0.toInt % 8 + x1.toInt ∨ x0.toInt / 8 + x2.toInt < 0 ∨ 8 ≤ x0.toInt / 8 + x2.toInt))); have z : (-1 : Int32).toInt = -1 := rfl; omega)⟩
        ·
          replace c11 := ti_leN c11 (show (8 : Int32).toInt = 8 from rfl) rfl
          refine ok_bnd (fun v5 e12 => ?_)
          have t_v5 : v5.toInt = 8 * v4.toInt := ti_mul e12 (show (8 : Int32).toInt = 8 from rfl) rfl (by omega) (by omega)
          refine ok_bnd (fun v6 e13 => ?_)
          have t_v6 : v6.toInt = v5.toInt + v2.toInt := ti_add e13 rfl rfl (by omega) (by omega)
          unfold f_step_48
          exact ok_ret ⟨rfl, (show (-1 : Int) ≤ v6.toInt ∧ v6.toInt ≤ (63 : Int) from (by omega)), (by show ((0 ≤ x0.toInt % 8 + x1.toInt ∧ x0.toInt % 8 + x1.toInt < 8 ∧ 0 ≤ x0.toInt / 8 + x2.toInt ∧ x0.toInt / 8 + x2.toInt < 8 ∧ (v6 : Int32).toInt = 8 * (x0.toInt / 8 + x2.toInt) + (x0.toInt % 8 + x1.toInt)) ∨ ((v6 : Int32).toInt = -1 ∧ (x0.toInt % 8 + x1.toInt < 0 ∨ 8 ≤ x0.toInt % 8 + x1.toInt ∨ x0.toInt / 8 + x2.toInt < 0 ∨ 8 ≤ x0.toInt / 8 + x2.toInt))); omega)⟩
theorem t_step  {I : Nat → Int32} {A : Nat → Nat → Int32} {x0 : Int32} {x1 : Int32} {x2 : Int32} (hI : TJ I) (hA : TK A) (r_x0 : (0 : Int) ≤ x0.toInt ∧ x0.toInt ≤ (63 : Int)) (r_x1 : (-2 : Int) ≤ x1.toInt ∧ x1.toInt ≤ (2 : Int)) (r_x2 : (-2 : Int) ≤ x2.toInt ∧ x2.toInt ≤ (2 : Int)) : Ok (f_step x0 x1 x2 I A) (fun o => o.2 = (I, A) ∧ ((-1 : Int) ≤ o.1.toInt ∧ o.1.toInt ≤ (63 : Int)) ∧ (((0 ≤ x0.toInt % 8 + x1.toInt ∧ x0.toInt % 8 + x1.toInt < 8 ∧ 0 ≤ x0.toInt / 8 + x2.toInt ∧ x0.toInt / 8 + x2.toInt < 8 ∧ o.1.toInt = 8 * (x0.toInt / 8 + x2.toInt) + (x0.toInt % 8 + x1.toInt)) ∨ (o.1.toInt = -1 ∧ (x0.toInt % 8 + x1.toInt < 0 ∨ 8 ≤ x0.toInt % 8 + x1.toInt ∨ x0.toInt / 8 + x2.toInt < 0 ∨ 8 ≤ x0.toInt / 8 + x2.toInt))))) := t_step_0  hI hA r_x0 r_x1 r_x2
theorem t_stands_0  {I : Nat → Int32} {A : Nat → Nat → Int32} {x1 : Int32} {x2 : Int32} (hI : TJ I) (hA : TK A) (r_x1 : (-1 : Int) ≤ x1.toInt ∧ x1.toInt ≤ (63 : Int)) : Ok (f_stands_0 x1 x2 I A) (fun o => o.2 = (I, A) ∧ ((0 : Int) ≤ o.1.toInt ∧ o.1.toInt ≤ (1 : Int))) := by
  unfold f_stands_0
  refine ok_if (fun c14 => ?_) (fun c14 => ?_)
  ·
    replace c14 := ti_ltP c14 rfl (show (0 : Int32).toInt = 0 from rfl)
    unfold f_stands_18
    unfold f_stands_19
    refine ok_chk (by decide) ?_
    exact ok_ret ⟨rfl, (show (0 : Int) ≤ (0 : Int32).toInt ∧ (0 : Int32).toInt ≤ (1 : Int) from (by decide))⟩
  ·
    replace c14 := ti_ltN c14 rfl (show (0 : Int32).toInt = 0 from rfl)
    refine ok_chk (ti_in (by omega) (by omega)) ?_
    refine ok_bnd (fun v1 e15 => ?_)
    refine ok_if (fun c16 => ?_) (fun c16 => ?_)
    ·
      replace c16 := ti_eqP c16 rfl rfl
      unfold f_stands_19
      refine ok_chk (by decide) ?_
      exact ok_ret ⟨rfl, (show (0 : Int) ≤ (1 : Int32).toInt ∧ (1 : Int32).toInt ≤ (1 : Int) from (by decide))⟩
    ·
      replace c16 := ti_eqN c16 rfl rfl
      unfold f_stands_18
      unfold f_stands_19
      refine ok_chk (by decide) ?_
      exact ok_ret ⟨rfl, (show (0 : Int) ≤ (0 : Int32).toInt ∧ (0 : Int32).toInt ≤ (1 : Int) from (by decide))⟩
theorem t_stands  {I : Nat → Int32} {A : Nat → Nat → Int32} {x1 : Int32} {x2 : Int32} (hI : TJ I) (hA : TK A) (r_x1 : (-1 : Int) ≤ x1.toInt ∧ x1.toInt ≤ (63 : Int)) : Ok (f_stands x1 x2 I A) (fun o => o.2 = (I, A) ∧ ((0 : Int) ≤ o.1.toInt ∧ o.1.toInt ≤ (1 : Int))) := t_stands_0  hI hA r_x1
theorem t_met_8s  {I : Nat → Int32} {A : Nat → Nat → Int32} {self8 : Int32 → Int32 → Int32 → (Nat → Int32) → (Nat → Nat → Int32) → Option (Int32 × MS)} {N8 : Nat} (hself8 : ∀ (x2 : Int32) (x3 : Int32) (x4 : Int32),  ((-1 : Int) ≤ x2.toInt ∧ x2.toInt ≤ (1 : Int)) → ((-1 : Int) ≤ x3.toInt ∧ x3.toInt ≤ (1 : Int)) → ((-1 : Int) ≤ x4.toInt ∧ x4.toInt ≤ (63 : Int)) → (x2.toInt ≠ 0 ∨ x3.toInt ≠ 0) → (mst x2.toInt x3.toInt x4.toInt) < (N8 : Int) → Ok (self8 x2 x3 x4 I A) (fun o => o.2 = (I, A) ∧ True)) {x2 : Int32} {x3 : Int32} {x4 : Int32} (hI : TJ I) (hA : TK A) (r_x2 : (-1 : Int) ≤ x2.toInt ∧ x2.toInt ≤ (1 : Int)) (r_x3 : (-1 : Int) ≤ x3.toInt ∧ x3.toInt ≤ (1 : Int)) (r_x4 : (-1 : Int) ≤ x4.toInt ∧ x4.toInt ≤ (63 : Int)) (q0 : x2.toInt ≠ 0 ∨ x3.toInt ≠ 0) (m8 : (mst x2.toInt x3.toInt x4.toInt) ≤ (N8 : Int)) : Ok (f_met_8s self8 x2 x3 x4 I A) (fun o => o.2 = (I, A) ∧ True) := by
  unfold f_met_8s
  refine ok_if (fun c17 => ?_) (fun c17 => ?_)
  ·
    replace c17 := ti_ltP c17 rfl (show (0 : Int32).toInt = 0 from rfl)
    unfold f_met_35
    refine ok_if (fun c18 => ?_) (fun c18 => ?_)
    ·
      replace c18 := ti_leP c18 (show (0 : Int32).toInt = 0 from rfl) rfl
      refine ok_chk (ti_in (by omega) (by omega)) ?_
      refine ok_bnd (fun v1 e19 => ?_)
      unfold f_met_51
      exact ok_ret ⟨rfl, trivial⟩
    ·
      replace c18 := ti_leN c18 (show (0 : Int32).toInt = 0 from rfl) rfl
      unfold f_met_51
      exact ok_ret ⟨rfl, trivial⟩
  ·
    replace c17 := ti_ltN c17 rfl (show (0 : Int32).toInt = 0 from rfl)
    refine ok_chk (ti_in (by omega) (by omega)) ?_
    refine ok_bnd (fun v1 e20 => ?_)
    refine ok_if (fun c21 => ?_) (fun c21 => ?_)
    ·
      replace c21 := ti_eqP c21 rfl (show (0 : Int32).toInt = 0 from rfl)
      obtain ⟨r2, h_r2, p_r2⟩ := ro (t_step (x0 := x4) (x1 := x2) (x2 := x3)  hI hA (by omega) (by omega) (by omega))
      refine ok_clR h_r2 ?_
      dsimp only at p_r2
      exact hself8 x2 x3 r2 r_x2 r_x3 (by omega) q0 (Int.lt_of_lt_of_le (mst_dec r_x2 r_x3 q0 (by omega) p_r2.2) m8)
    ·
      replace c21 := ti_eqN c21 rfl (show (0 : Int32).toInt = 0 from rfl)
      unfold f_met_35
      refine ok_if (fun c22 => ?_) (fun c22 => ?_)
      ·
        replace c22 := ti_leP c22 (show (0 : Int32).toInt = 0 from rfl) rfl
        refine ok_chk (ti_in (by omega) (by omega)) ?_
        refine ok_bnd (fun v1 e23 => ?_)
        unfold f_met_51
        exact ok_ret ⟨rfl, trivial⟩
      ·
        replace c22 := ti_leN c22 (show (0 : Int32).toInt = 0 from rfl) rfl
        unfold f_met_51
        exact ok_ret ⟨rfl, trivial⟩
theorem t_met_8  {I : Nat → Int32} {A : Nat → Nat → Int32} (hI : TJ I) (hA : TK A) : ∀ (n : Nat) (x2 : Int32) (x3 : Int32) (x4 : Int32),  ((-1 : Int) ≤ x2.toInt ∧ x2.toInt ≤ (1 : Int)) → ((-1 : Int) ≤ x3.toInt ∧ x3.toInt ≤ (1 : Int)) → ((-1 : Int) ≤ x4.toInt ∧ x4.toInt ≤ (63 : Int)) → (x2.toInt ≠ 0 ∨ x3.toInt ≠ 0) → (mst x2.toInt x3.toInt x4.toInt) < (n : Int) → Ok (f_met_8  n x2 x3 x4 I A) (fun o => o.2 = (I, A) ∧ True) := by
  intro n
  induction n with
  | zero => intro x2 x3 x4 g0 g1 g2 g3  hm; exfalso; have := mst_nn g0 g1 g2; omega
  | succ n ih =>
    intro x2 x3 x4 g0 g1 g2 g3  hm
    exact t_met_8s   (N8 := n)  ih hI hA g0 g1 g2 g3  (by omega)
theorem t_met_0  {I : Nat → Int32} {A : Nat → Nat → Int32} {x1 : Int32} {x2 : Int32} {x3 : Int32} (hI : TJ I) (hA : TK A) (r_x1 : (0 : Int) ≤ x1.toInt ∧ x1.toInt ≤ (63 : Int)) (r_x2 : (-1 : Int) ≤ x2.toInt ∧ x2.toInt ≤ (1 : Int)) (r_x3 : (-1 : Int) ≤ x3.toInt ∧ x3.toInt ≤ (1 : Int)) (q0 : x2.toInt ≠ 0 ∨ x3.toInt ≠ 0) : Ok (f_met_0 x1 x2 x3 I A) (fun o => o.2 = (I, A) ∧ True) := by
  unfold f_met_0
  obtain ⟨r1, h_r1, p_r1⟩ := ro (t_step (x0 := x1) (x1 := x2) (x2 := x3)  hI hA r_x1 (by omega) (by omega))
  refine ok_clR h_r1 ?_
  dsimp only at p_r1
  exact t_met_8    hI hA mFuel x2 x3 r1  r_x2 r_x3 (by omega) q0 (mst_lt r_x2 r_x3 (by omega))
theorem t_met  {I : Nat → Int32} {A : Nat → Nat → Int32} {x1 : Int32} {x2 : Int32} {x3 : Int32} (hI : TJ I) (hA : TK A) (r_x1 : (0 : Int) ≤ x1.toInt ∧ x1.toInt ≤ (63 : Int)) (r_x2 : (-1 : Int) ≤ x2.toInt ∧ x2.toInt ≤ (1 : Int)) (r_x3 : (-1 : Int) ≤ x3.toInt ∧ x3.toInt ≤ (1 : Int)) (q0 : x2.toInt ≠ 0 ∨ x3.toInt ≠ 0) : Ok (f_met x1 x2 x3 I A) (fun o => o.2 = (I, A) ∧ True) := t_met_0  hI hA r_x1 r_x2 r_x3 q0
theorem t_isAttacked_205  {I : Nat → Int32} {A : Nat → Nat → Int32} {self61 : Int32 → Int32 → Int32 → Int32 → (Nat → Int32) → (Nat → Nat → Int32) → Option (Int32 × MS)} {N61 : Nat} (hself61 : ∀ (x1 : Int32) (x3 : Int32) (x5 : Int32) (x6 : Int32),  ((0 : Int) ≤ x1.toInt ∧ x1.toInt ≤ (63 : Int)) → ((0 : Int) ≤ x3.toInt ∧ x3.toInt ≤ (8 : Int)) → ((0 : Int) ≤ x5.toInt ∧ x5.toInt ≤ (1 : Int)) → ((-2 : Int) ≤ x6.toInt ∧ x6.toInt ≤ (3 : Int)) → (3 - x6.toInt) < (N61 : Int) → Ok (self61 x1 x3 x5 x6 I A) (fun o => o.2 = (I, A) ∧ ((0 : Int) ≤ o.1.toInt ∧ o.1.toInt ≤ (1 : Int)))) {self71 : Int32 → Int32 → Int32 → Int32 → Int32 → (Nat → Int32) → (Nat → Nat → Int32) → Option (Int32 × MS)} {N71 : Nat} (hself71 : ∀ (x1 : Int32) (x3 : Int32) (x5 : Int32) (x6 : Int32) (x7 : Int32),  ((0 : Int) ≤ x1.toInt ∧ x1.toInt ≤ (63 : Int)) → ((0 : Int) ≤ x3.toInt ∧ x3.toInt ≤ (8 : Int)) → ((0 : Int) ≤ x5.toInt ∧ x5.toInt ≤ (1 : Int)) → ((-2 : Int) ≤ x6.toInt ∧ x6.toInt ≤ (2 : Int)) → ((-2 : Int) ≤ x7.toInt ∧ x7.toInt ≤ (3 : Int)) → ((3 - x6.toInt) ≤ (N61 : Int)) → (3 - x7.toInt) < (N71 : Int) → Ok (self71 x1 x3 x5 x6 x7 I A) (fun o => o.2 = (I, A) ∧ ((0 : Int) ≤ o.1.toInt ∧ o.1.toInt ≤ (1 : Int)))) {x1 : Int32} {x3 : Int32} {x6 : Int32} {x7 : Int32} {t0 : Int32} {t1 : Int32} (hI : TJ I) (hA : TK A) (r_x1 : (0 : Int) ≤ x1.toInt ∧ x1.toInt ≤ (63 : Int)) (r_x3 : (0 : Int) ≤ x3.toInt ∧ x3.toInt ≤ (8 : Int)) (r_x6 : (-2 : Int) ≤ x6.toInt ∧ x6.toInt ≤ (2 : Int)) (r_x7 : (-2 : Int) ≤ x7.toInt ∧ x7.toInt ≤ (2 : Int)) (r_t0 : (3 : Int) ≤ t0.toInt ∧ t0.toInt ≤ (4 : Int)) (m61 : (3 - x6.toInt) ≤ (N61 : Int)) (m71 : (3 - x7.toInt) ≤ (N71 : Int)) : Ok (f_isAttacked_205 self61 self71 x1 x3 x6 x7 t0 t1 I A) (fun o => o.2 = (I, A) ∧ ((0 : Int) ≤ o.1.toInt ∧ o.1.toInt ≤ (1 : Int))) := by
  unfold f_isAttacked_205
  refine ok_bnd (fun v1 e24 => ?_)
  have t_v1 : v1.toInt = t0.toInt + x3.toInt := ti_add e24 rfl rfl (by omega) (by omega)
  refine ok_if (fun c25 => ?_) (fun c25 => ?_)
  ·
    replace c25 := ti_eqP c25 rfl rfl
    unfold f_isAttacked_210
    unfold f_isAttacked_215
    unfold f_isAttacked_217
    refine ok_bnd (fun v1 e26 => ?_)
    have t_v1 : v1.toInt = x7.toInt + 1 := ti_add e26 rfl (show (1 : Int32).toInt = 1 from rfl) (by omega) (by omega)
    exact hself71 x1 x3 (1 : Int32) x6 v1 r_x1 r_x3 (by decide) r_x6 (by omega) m61 (by omega)
  ·
    replace c25 := ti_eqN c25 rfl rfl
    unfold f_isAttacked_215
    unfold f_isAttacked_217
    refine ok_bnd (fun v1 e27 => ?_)
    have t_v1 : v1.toInt = x7.toInt + 1 := ti_add e27 rfl (show (1 : Int32).toInt = 1 from rfl) (by omega) (by omega)
    exact hself71 x1 x3 (0 : Int32) x6 v1 r_x1 r_x3 (by decide) r_x6 (by omega) m61 (by omega)
theorem t_isAttacked_168  {I : Nat → Int32} {A : Nat → Nat → Int32} {self61 : Int32 → Int32 → Int32 → Int32 → (Nat → Int32) → (Nat → Nat → Int32) → Option (Int32 × MS)} {N61 : Nat} (hself61 : ∀ (x1 : Int32) (x3 : Int32) (x5 : Int32) (x6 : Int32),  ((0 : Int) ≤ x1.toInt ∧ x1.toInt ≤ (63 : Int)) → ((0 : Int) ≤ x3.toInt ∧ x3.toInt ≤ (8 : Int)) → ((0 : Int) ≤ x5.toInt ∧ x5.toInt ≤ (1 : Int)) → ((-2 : Int) ≤ x6.toInt ∧ x6.toInt ≤ (3 : Int)) → (3 - x6.toInt) < (N61 : Int) → Ok (self61 x1 x3 x5 x6 I A) (fun o => o.2 = (I, A) ∧ ((0 : Int) ≤ o.1.toInt ∧ o.1.toInt ≤ (1 : Int)))) {self71 : Int32 → Int32 → Int32 → Int32 → Int32 → (Nat → Int32) → (Nat → Nat → Int32) → Option (Int32 × MS)} {N71 : Nat} (hself71 : ∀ (x1 : Int32) (x3 : Int32) (x5 : Int32) (x6 : Int32) (x7 : Int32),  ((0 : Int) ≤ x1.toInt ∧ x1.toInt ≤ (63 : Int)) → ((0 : Int) ≤ x3.toInt ∧ x3.toInt ≤ (8 : Int)) → ((0 : Int) ≤ x5.toInt ∧ x5.toInt ≤ (1 : Int)) → ((-2 : Int) ≤ x6.toInt ∧ x6.toInt ≤ (2 : Int)) → ((-2 : Int) ≤ x7.toInt ∧ x7.toInt ≤ (3 : Int)) → ((3 - x6.toInt) ≤ (N61 : Int)) → (3 - x7.toInt) < (N71 : Int) → Ok (self71 x1 x3 x5 x6 x7 I A) (fun o => o.2 = (I, A) ∧ ((0 : Int) ≤ o.1.toInt ∧ o.1.toInt ≤ (1 : Int)))) {x1 : Int32} {x3 : Int32} {x5 : Int32} {x6 : Int32} {x7 : Int32} {x8 : Int32} (hI : TJ I) (hA : TK A) (r_x1 : (0 : Int) ≤ x1.toInt ∧ x1.toInt ≤ (63 : Int)) (r_x3 : (0 : Int) ≤ x3.toInt ∧ x3.toInt ≤ (8 : Int)) (r_x5 : (0 : Int) ≤ x5.toInt ∧ x5.toInt ≤ (1 : Int)) (r_x6 : (-1 : Int) ≤ x6.toInt ∧ x6.toInt ≤ (1 : Int)) (r_x7 : (-1 : Int) ≤ x7.toInt ∧ x7.toInt ≤ (1 : Int)) (r_x8 : (0 : Int) ≤ x8.toInt ∧ x8.toInt ≤ (8 : Int)) (q0 : x6.toInt ≠ 0 ∨ x7.toInt ≠ 0) (m61 : (3 - x6.toInt) ≤ (N61 : Int)) (m71 : (3 - x7.toInt) ≤ (N71 : Int)) : Ok (f_isAttacked_168 self61 self71 x1 x3 x5 x6 x7 x8 I A) (fun o => o.2 = (I, A) ∧ ((0 : Int) ≤ o.1.toInt ∧ o.1.toInt ≤ (1 : Int))) := by
  unfold f_isAttacked_168
  obtain ⟨r1, h_r1, p_r1⟩ := ro (t_met (x1 := x1) (x2 := x6) (x3 := x7)  hI hA r_x1 r_x6 r_x7 q0)
  refine ok_clR h_r1 ?_
  refine ok_if (fun c28 => ?_) (fun c28 => ?_)
  ·
    replace c28 := ti_eqP c28 rfl (show (0 : Int32).toInt = 0 from rfl)
    refine ok_bnd (fun v2 e29 => ?_)
    have t_v2 : v2.toInt = 5 + x3.toInt := ti_add e29 (show (5 : Int32).toInt = 5 from rfl) rfl (by omega) (by omega)
    refine ok_if (fun c30 => ?_) (fun c30 => ?_)
    ·
      replace c30 := ti_eqP c30 rfl rfl
      unfold f_isAttacked_210
      unfold f_isAttacked_215
      unfold f_isAttacked_217
      refine ok_bnd (fun v1 e31 => ?_)
      have t_v1 : v1.toInt = x7.toInt + 1 := ti_add e31 rfl (show (1 : Int32).toInt = 1 from rfl) (by omega) (by omega)
      exact hself71 x1 x3 (1 : Int32) x6 v1 r_x1 r_x3 (by decide) (by omega) (by omega) m61 (by omega)
    ·
      replace c30 := ti_eqN c30 rfl rfl
      refine ok_if (fun c32 => ?_) (fun c32 => ?_)
      ·
        replace c32 := ti_eqP c32 rfl (show (1 : Int32).toInt = 1 from rfl)
        exact t_isAttacked_205   hself61 hself71 (x1 := x1) (x3 := x3) (x6 := x6) (x7 := x7) (t0 := (4 : Int32)) (t1 := r1) hI hA r_x1 r_x3 (by omega) (by omega) (by decide) m61 m71
      ·
        replace c32 := ti_eqN c32 rfl (show (1 : Int32).toInt = 1 from rfl)
        exact t_isAttacked_205   hself61 hself71 (x1 := x1) (x3 := x3) (x6 := x6) (x7 := x7) (t0 := (3 : Int32)) (t1 := r1) hI hA r_x1 r_x3 (by omega) (by omega) (by decide) m61 m71
  ·
    replace c28 := ti_eqN c28 rfl (show (0 : Int32).toInt = 0 from rfl)
    unfold f_isAttacked_210
    unfold f_isAttacked_215
    unfold f_isAttacked_217
    refine ok_bnd (fun v1 e33 => ?_)
    have t_v1 : v1.toInt = x7.toInt + 1 := ti_add e33 rfl (show (1 : Int32).toInt = 1 from rfl) (by omega) (by omega)
    exact hself71 x1 x3 (1 : Int32) x6 v1 r_x1 r_x3 (by decide) (by omega) (by omega) m61 (by omega)
theorem t_isAttacked_154  {I : Nat → Int32} {A : Nat → Nat → Int32} {self61 : Int32 → Int32 → Int32 → Int32 → (Nat → Int32) → (Nat → Nat → Int32) → Option (Int32 × MS)} {N61 : Nat} (hself61 : ∀ (x1 : Int32) (x3 : Int32) (x5 : Int32) (x6 : Int32),  ((0 : Int) ≤ x1.toInt ∧ x1.toInt ≤ (63 : Int)) → ((0 : Int) ≤ x3.toInt ∧ x3.toInt ≤ (8 : Int)) → ((0 : Int) ≤ x5.toInt ∧ x5.toInt ≤ (1 : Int)) → ((-2 : Int) ≤ x6.toInt ∧ x6.toInt ≤ (3 : Int)) → (3 - x6.toInt) < (N61 : Int) → Ok (self61 x1 x3 x5 x6 I A) (fun o => o.2 = (I, A) ∧ ((0 : Int) ≤ o.1.toInt ∧ o.1.toInt ≤ (1 : Int)))) {self71 : Int32 → Int32 → Int32 → Int32 → Int32 → (Nat → Int32) → (Nat → Nat → Int32) → Option (Int32 × MS)} {N71 : Nat} (hself71 : ∀ (x1 : Int32) (x3 : Int32) (x5 : Int32) (x6 : Int32) (x7 : Int32),  ((0 : Int) ≤ x1.toInt ∧ x1.toInt ≤ (63 : Int)) → ((0 : Int) ≤ x3.toInt ∧ x3.toInt ≤ (8 : Int)) → ((0 : Int) ≤ x5.toInt ∧ x5.toInt ≤ (1 : Int)) → ((-2 : Int) ≤ x6.toInt ∧ x6.toInt ≤ (2 : Int)) → ((-2 : Int) ≤ x7.toInt ∧ x7.toInt ≤ (3 : Int)) → ((3 - x6.toInt) ≤ (N61 : Int)) → (3 - x7.toInt) < (N71 : Int) → Ok (self71 x1 x3 x5 x6 x7 I A) (fun o => o.2 = (I, A) ∧ ((0 : Int) ≤ o.1.toInt ∧ o.1.toInt ≤ (1 : Int)))) {x1 : Int32} {x3 : Int32} {x6 : Int32} {x7 : Int32} {x8 : Int32} {t0 : Int32} (hI : TJ I) (hA : TK A) (r_x1 : (0 : Int) ≤ x1.toInt ∧ x1.toInt ≤ (63 : Int)) (r_x3 : (0 : Int) ≤ x3.toInt ∧ x3.toInt ≤ (8 : Int)) (r_x6 : (-2 : Int) ≤ x6.toInt ∧ x6.toInt ≤ (2 : Int)) (r_x7 : (-2 : Int) ≤ x7.toInt ∧ x7.toInt ≤ (2 : Int)) (r_x8 : (0 : Int) ≤ x8.toInt ∧ x8.toInt ≤ (8 : Int)) (r_t0 : (0 : Int) ≤ t0.toInt ∧ t0.toInt ≤ (1 : Int)) (q0 : (x8.toInt = 1 ∨ x8.toInt = 2 → -1 ≤ x6.toInt ∧ x6.toInt ≤ 1 ∧ -1 ≤ x7.toInt ∧ x7.toInt ≤ 1 ∧ (x6.toInt ≠ 0 ∨ x7.toInt ≠ 0))) (m61 : (3 - x6.toInt) ≤ (N61 : Int)) (m71 : (3 - x7.toInt) ≤ (N71 : Int)) : Ok (f_isAttacked_154 self61 self71 x1 x3 x6 x7 x8 t0 I A) (fun o => o.2 = (I, A) ∧ ((0 : Int) ≤ o.1.toInt ∧ o.1.toInt ≤ (1 : Int))) := by
  unfold f_isAttacked_154
  refine ok_if (fun c34 => ?_) (fun c34 => ?_)
  ·
    replace c34 := ti_eqP c34 rfl (show (1 : Int32).toInt = 1 from rfl)
    exact t_isAttacked_168   hself61 hself71 (x1 := x1) (x3 := x3) (x5 := t0) (x6 := x6) (x7 := x7) (x8 := x8) hI hA r_x1 r_x3 r_t0 (by omega) (by omega) r_x8 (by omega) m61 m71
  ·
    replace c34 := ti_eqN c34 rfl (show (1 : Int32).toInt = 1 from rfl)
    refine ok_if (fun c35 => ?_) (fun c35 => ?_)
    ·
      replace c35 := ti_eqP c35 rfl (show (2 : Int32).toInt = 2 from rfl)
      exact t_isAttacked_168   hself61 hself71 (x1 := x1) (x3 := x3) (x5 := t0) (x6 := x6) (x7 := x7) (x8 := x8) hI hA r_x1 r_x3 r_t0 (by omega) (by omega) r_x8 (by omega) m61 m71
    ·
      replace c35 := ti_eqN c35 rfl (show (2 : Int32).toInt = 2 from rfl)
      unfold f_isAttacked_217
      refine ok_bnd (fun v1 e36 => ?_)
      have t_v1 : v1.toInt = x7.toInt + 1 := ti_add e36 rfl (show (1 : Int32).toInt = 1 from rfl) (by omega) (by omega)
      exact hself71 x1 x3 t0 x6 v1 r_x1 r_x3 r_t0 r_x6 (by omega) m61 (by omega)
theorem t_isAttacked_119  {I : Nat → Int32} {A : Nat → Nat → Int32} {self61 : Int32 → Int32 → Int32 → Int32 → (Nat → Int32) → (Nat → Nat → Int32) → Option (Int32 × MS)} {N61 : Nat} (hself61 : ∀ (x1 : Int32) (x3 : Int32) (x5 : Int32) (x6 : Int32),  ((0 : Int) ≤ x1.toInt ∧ x1.toInt ≤ (63 : Int)) → ((0 : Int) ≤ x3.toInt ∧ x3.toInt ≤ (8 : Int)) → ((0 : Int) ≤ x5.toInt ∧ x5.toInt ≤ (1 : Int)) → ((-2 : Int) ≤ x6.toInt ∧ x6.toInt ≤ (3 : Int)) → (3 - x6.toInt) < (N61 : Int) → Ok (self61 x1 x3 x5 x6 I A) (fun o => o.2 = (I, A) ∧ ((0 : Int) ≤ o.1.toInt ∧ o.1.toInt ≤ (1 : Int)))) {self71 : Int32 → Int32 → Int32 → Int32 → Int32 → (Nat → Int32) → (Nat → Nat → Int32) → Option (Int32 × MS)} {N71 : Nat} (hself71 : ∀ (x1 : Int32) (x3 : Int32) (x5 : Int32) (x6 : Int32) (x7 : Int32),  ((0 : Int) ≤ x1.toInt ∧ x1.toInt ≤ (63 : Int)) → ((0 : Int) ≤ x3.toInt ∧ x3.toInt ≤ (8 : Int)) → ((0 : Int) ≤ x5.toInt ∧ x5.toInt ≤ (1 : Int)) → ((-2 : Int) ≤ x6.toInt ∧ x6.toInt ≤ (2 : Int)) → ((-2 : Int) ≤ x7.toInt ∧ x7.toInt ≤ (3 : Int)) → ((3 - x6.toInt) ≤ (N61 : Int)) → (3 - x7.toInt) < (N71 : Int) → Ok (self71 x1 x3 x5 x6 x7 I A) (fun o => o.2 = (I, A) ∧ ((0 : Int) ≤ o.1.toInt ∧ o.1.toInt ≤ (1 : Int)))) {x1 : Int32} {x3 : Int32} {x6 : Int32} {x7 : Int32} {x8 : Int32} (hI : TJ I) (hA : TK A) (r_x1 : (0 : Int) ≤ x1.toInt ∧ x1.toInt ≤ (63 : Int)) (r_x3 : (0 : Int) ≤ x3.toInt ∧ x3.toInt ≤ (8 : Int)) (r_x6 : (-2 : Int) ≤ x6.toInt ∧ x6.toInt ≤ (2 : Int)) (r_x7 : (-2 : Int) ≤ x7.toInt ∧ x7.toInt ≤ (2 : Int)) (r_x8 : (0 : Int) ≤ x8.toInt ∧ x8.toInt ≤ (8 : Int)) (q0 : (x8.toInt = 1 ∨ x8.toInt = 2 → -1 ≤ x6.toInt ∧ x6.toInt ≤ 1 ∧ -1 ≤ x7.toInt ∧ x7.toInt ≤ 1 ∧ (x6.toInt ≠ 0 ∨ x7.toInt ≠ 0))) (m61 : (3 - x6.toInt) ≤ (N61 : Int)) (m71 : (3 - x7.toInt) ≤ (N71 : Int)) : Ok (f_isAttacked_119 self61 self71 x1 x3 x6 x7 x8 I A) (fun o => o.2 = (I, A) ∧ ((0 : Int) ≤ o.1.toInt ∧ o.1.toInt ≤ (1 : Int))) := by
  unfold f_isAttacked_119
  refine ok_if (fun c37 => ?_) (fun c37 => ?_)
  ·
    replace c37 := ti_leP c37 rfl (show (0 : Int32).toInt = 0 from rfl)
    unfold f_isAttacked_153
    exact t_isAttacked_154   hself61 hself71 (x1 := x1) (x3 := x3) (x6 := x6) (x7 := x7) (x8 := x8) (t0 := (0 : Int32)) hI hA r_x1 r_x3 r_x6 r_x7 r_x8 (by decide) q0 m61 m71
  ·
    replace c37 := ti_leN c37 rfl (show (0 : Int32).toInt = 0 from rfl)
    refine ok_if (fun c38 => ?_) (fun c38 => ?_)
    ·
      replace c38 := ti_leP c38 (show (3 : Int32).toInt = 3 from rfl) rfl
      unfold f_isAttacked_153
      exact t_isAttacked_154   hself61 hself71 (x1 := x1) (x3 := x3) (x6 := x6) (x7 := x7) (x8 := x8) (t0 := (0 : Int32)) hI hA r_x1 r_x3 r_x6 r_x7 r_x8 (by decide) q0 m61 m71
    ·
      replace c38 := ti_leN c38 (show (3 : Int32).toInt = 3 from rfl) rfl
      obtain ⟨r1, h_r1, p_r1⟩ := ro (t_step (x0 := x1) (x1 := x6) (x2 := x7)  hI hA r_x1 r_x6 r_x7)
      refine ok_clR h_r1 ?_
      dsimp only at p_r1
      refine ok_bnd (fun v2 e39 => ?_)
      have t_v2 : v2.toInt = 6 + x3.toInt := ti_add e39 (show (6 : Int32).toInt = 6 from rfl) rfl (by omega) (by omega)
      obtain ⟨r3, h_r3, p_r3⟩ := ro (t_stands (x1 := r1) (x2 := v2)  hI hA (by omega))
      refine ok_clR h_r3 ?_
      dsimp only at p_r3
      refine ok_if (fun c40 => ?_) (fun c40 => ?_)
      ·
        replace c40 := ti_eqP c40 rfl (show (0 : Int32).toInt = 0 from rfl)
        unfold f_isAttacked_153
        exact t_isAttacked_154   hself61 hself71 (x1 := x1) (x3 := x3) (x6 := x6) (x7 := x7) (x8 := x8) (t0 := (0 : Int32)) hI hA r_x1 r_x3 r_x6 r_x7 r_x8 (by decide) q0 m61 m71
      ·
        replace c40 := ti_eqN c40 rfl (show (0 : Int32).toInt = 0 from rfl)
        unfold f_isAttacked_149
        exact t_isAttacked_154   hself61 hself71 (x1 := x1) (x3 := x3) (x6 := x6) (x7 := x7) (x8 := x8) (t0 := (1 : Int32)) hI hA r_x1 r_x3 r_x6 r_x7 r_x8 (by decide) q0 m61 m71
theorem t_isAttacked_71s  {I : Nat → Int32} {A : Nat → Nat → Int32} {self61 : Int32 → Int32 → Int32 → Int32 → (Nat → Int32) → (Nat → Nat → Int32) → Option (Int32 × MS)} {N61 : Nat} (hself61 : ∀ (x1 : Int32) (x3 : Int32) (x5 : Int32) (x6 : Int32),  ((0 : Int) ≤ x1.toInt ∧ x1.toInt ≤ (63 : Int)) → ((0 : Int) ≤ x3.toInt ∧ x3.toInt ≤ (8 : Int)) → ((0 : Int) ≤ x5.toInt ∧ x5.toInt ≤ (1 : Int)) → ((-2 : Int) ≤ x6.toInt ∧ x6.toInt ≤ (3 : Int)) → (3 - x6.toInt) < (N61 : Int) → Ok (self61 x1 x3 x5 x6 I A) (fun o => o.2 = (I, A) ∧ ((0 : Int) ≤ o.1.toInt ∧ o.1.toInt ≤ (1 : Int)))) {self71 : Int32 → Int32 → Int32 → Int32 → Int32 → (Nat → Int32) → (Nat → Nat → Int32) → Option (Int32 × MS)} {N71 : Nat} (hself71 : ∀ (x1 : Int32) (x3 : Int32) (x5 : Int32) (x6 : Int32) (x7 : Int32),  ((0 : Int) ≤ x1.toInt ∧ x1.toInt ≤ (63 : Int)) → ((0 : Int) ≤ x3.toInt ∧ x3.toInt ≤ (8 : Int)) → ((0 : Int) ≤ x5.toInt ∧ x5.toInt ≤ (1 : Int)) → ((-2 : Int) ≤ x6.toInt ∧ x6.toInt ≤ (2 : Int)) → ((-2 : Int) ≤ x7.toInt ∧ x7.toInt ≤ (3 : Int)) → ((3 - x6.toInt) ≤ (N61 : Int)) → (3 - x7.toInt) < (N71 : Int) → Ok (self71 x1 x3 x5 x6 x7 I A) (fun o => o.2 = (I, A) ∧ ((0 : Int) ≤ o.1.toInt ∧ o.1.toInt ≤ (1 : Int)))) {x1 : Int32} {x3 : Int32} {x5 : Int32} {x6 : Int32} {x7 : Int32} (hI : TJ I) (hA : TK A) (r_x1 : (0 : Int) ≤ x1.toInt ∧ x1.toInt ≤ (63 : Int)) (r_x3 : (0 : Int) ≤ x3.toInt ∧ x3.toInt ≤ (8 : Int)) (r_x5 : (0 : Int) ≤ x5.toInt ∧ x5.toInt ≤ (1 : Int)) (r_x6 : (-2 : Int) ≤ x6.toInt ∧ x6.toInt ≤ (2 : Int)) (r_x7 : (-2 : Int) ≤ x7.toInt ∧ x7.toInt ≤ (3 : Int)) (m61 : (3 - x6.toInt) ≤ (N61 : Int)) (m71 : (3 - x7.toInt) ≤ (N71 : Int)) : Ok (f_isAttacked_71s self61 self71 x1 x3 x5 x6 x7 I A) (fun o => o.2 = (I, A) ∧ ((0 : Int) ≤ o.1.toInt ∧ o.1.toInt ≤ (1 : Int))) := by
  unfold f_isAttacked_71s
  refine ok_if (fun c41 => ?_) (fun c41 => ?_)
  ·
    replace c41 := ti_leP c41 (show (3 : Int32).toInt = 3 from rfl) rfl
    refine ok_bnd (fun v1 e42 => ?_)
    have t_v1 : v1.toInt = x6.toInt + 1 := ti_add e42 rfl (show (1 : Int32).toInt = 1 from rfl) (by omega) (by omega)
    exact hself61 x1 x3 x5 v1 r_x1 r_x3 r_x5 (by omega) (by omega)
  ·
    replace c41 := ti_leN c41 (show (3 : Int32).toInt = 3 from rfl) rfl
    refine ok_bnd (fun v2 e43 => ?_)
    have t_v2 := ti_sq e43 (by omega) (by omega)
    refine ok_bnd (fun v3 e44 => ?_)
    have t_v3 := ti_sq e44 (by omega) (by omega)
    refine ok_bnd (fun v4 e45 => ?_)
    have t_v4 : v4.toInt = v2.toInt + v3.toInt := ti_add e45 rfl rfl (by omega) (by omega)
    refine ok_if (fun c46 => ?_) (fun c46 => ?_)
    ·
      replace c46 := ti_eqP c46 rfl (show (0 : Int32).toInt = 0 from rfl)
      refine ok_if (fun c47 => ?_) (fun c47 => ?_)
      ·
        replace c47 := ti_eqP c47 rfl (show (5 : Int32).toInt = 5 from rfl)
        obtain ⟨r5, h_r5, p_r5⟩ := ro (t_step (x0 := x1) (x1 := x6) (x2 := x7)  hI hA r_x1 r_x6 (by omega))
        refine ok_clR h_r5 ?_
        dsimp only at p_r5
        refine ok_bnd (fun v6 e48 => ?_)
        have t_v6 : v6.toInt = 2 + x3.toInt := ti_add e48 (show (2 : Int32).toInt = 2 from rfl) rfl (by omega) (by omega)
        obtain ⟨r7, h_r7, p_r7⟩ := ro (t_stands (x1 := r5) (x2 := v6)  hI hA (by omega))
        refine ok_clR h_r7 ?_
        dsimp only at p_r7
        refine ok_if (fun c49 => ?_) (fun c49 => ?_)
        ·
          replace c49 := ti_eqP c49 rfl (show (0 : Int32).toInt = 0 from rfl)
          exact t_isAttacked_119   hself61 hself71 (x1 := x1) (x3 := x3) (x6 := x6) (x7 := x7) (x8 := v4) hI hA r_x1 r_x3 r_x6 (by omega) (by omega) (by omega) m61 m71
        ·
          replace c49 := ti_eqN c49 rfl (show (0 : Int32).toInt = 0 from rfl)
          unfold f_isAttacked_149
          exact t_isAttacked_154   hself61 hself71 (x1 := x1) (x3 := x3) (x6 := x6) (x7 := x7) (x8 := v4) (t0 := (1 : Int32)) hI hA r_x1 r_x3 r_x6 (by omega) (by omega) (by decide) (by have z0 : (1 : Int32).toInt = 1 := rfl; omega) m61 m71
      ·
        replace c47 := ti_eqN c47 rfl (show (5 : Int32).toInt = 5 from rfl)
        exact t_isAttacked_119   hself61 hself71 (x1 := x1) (x3 := x3) (x6 := x6) (x7 := x7) (x8 := v4) hI hA r_x1 r_x3 r_x6 (by omega) (by omega) (by omega) m61 m71
    ·
      replace c46 := ti_eqN c46 rfl (show (0 : Int32).toInt = 0 from rfl)
      unfold f_isAttacked_149
      exact t_isAttacked_154   hself61 hself71 (x1 := x1) (x3 := x3) (x6 := x6) (x7 := x7) (x8 := v4) (t0 := (1 : Int32)) hI hA r_x1 r_x3 r_x6 (by omega) (by omega) (by decide) (by have z0 : (1 : Int32).toInt = 1 := rfl; omega) m61 m71
theorem t_isAttacked_71  {I : Nat → Int32} {A : Nat → Nat → Int32} {self61 : Int32 → Int32 → Int32 → Int32 → (Nat → Int32) → (Nat → Nat → Int32) → Option (Int32 × MS)} {N61 : Nat} (hself61 : ∀ (x1 : Int32) (x3 : Int32) (x5 : Int32) (x6 : Int32),  ((0 : Int) ≤ x1.toInt ∧ x1.toInt ≤ (63 : Int)) → ((0 : Int) ≤ x3.toInt ∧ x3.toInt ≤ (8 : Int)) → ((0 : Int) ≤ x5.toInt ∧ x5.toInt ≤ (1 : Int)) → ((-2 : Int) ≤ x6.toInt ∧ x6.toInt ≤ (3 : Int)) → (3 - x6.toInt) < (N61 : Int) → Ok (self61 x1 x3 x5 x6 I A) (fun o => o.2 = (I, A) ∧ ((0 : Int) ≤ o.1.toInt ∧ o.1.toInt ≤ (1 : Int)))) (hI : TJ I) (hA : TK A) : ∀ (n : Nat) (x1 : Int32) (x3 : Int32) (x5 : Int32) (x6 : Int32) (x7 : Int32),  ((0 : Int) ≤ x1.toInt ∧ x1.toInt ≤ (63 : Int)) → ((0 : Int) ≤ x3.toInt ∧ x3.toInt ≤ (8 : Int)) → ((0 : Int) ≤ x5.toInt ∧ x5.toInt ≤ (1 : Int)) → ((-2 : Int) ≤ x6.toInt ∧ x6.toInt ≤ (2 : Int)) → ((-2 : Int) ≤ x7.toInt ∧ x7.toInt ≤ (3 : Int)) → ((3 - x6.toInt) ≤ (N61 : Int)) → (3 - x7.toInt) < (n : Int) → Ok (f_isAttacked_71 self61 n x1 x3 x5 x6 x7 I A) (fun o => o.2 = (I, A) ∧ ((0 : Int) ≤ o.1.toInt ∧ o.1.toInt ≤ (1 : Int))) := by
  intro n
  induction n with
  | zero => intro x1 x3 x5 x6 x7 g0 g1 g2 g3 g4 w0 hm; exfalso; omega
  | succ n ih =>
    intro x1 x3 x5 x6 x7 g0 g1 g2 g3 g4 w0 hm
    exact t_isAttacked_71s   (N71 := n) hself61 ih hI hA g0 g1 g2 g3 g4 w0 (by omega)
theorem t_isAttacked_61s  {I : Nat → Int32} {A : Nat → Nat → Int32} {self61 : Int32 → Int32 → Int32 → Int32 → (Nat → Int32) → (Nat → Nat → Int32) → Option (Int32 × MS)} {N61 : Nat} (hself61 : ∀ (x1 : Int32) (x3 : Int32) (x5 : Int32) (x6 : Int32),  ((0 : Int) ≤ x1.toInt ∧ x1.toInt ≤ (63 : Int)) → ((0 : Int) ≤ x3.toInt ∧ x3.toInt ≤ (8 : Int)) → ((0 : Int) ≤ x5.toInt ∧ x5.toInt ≤ (1 : Int)) → ((-2 : Int) ≤ x6.toInt ∧ x6.toInt ≤ (3 : Int)) → (3 - x6.toInt) < (N61 : Int) → Ok (self61 x1 x3 x5 x6 I A) (fun o => o.2 = (I, A) ∧ ((0 : Int) ≤ o.1.toInt ∧ o.1.toInt ≤ (1 : Int)))) {x1 : Int32} {x3 : Int32} {x5 : Int32} {x6 : Int32} (hI : TJ I) (hA : TK A) (r_x1 : (0 : Int) ≤ x1.toInt ∧ x1.toInt ≤ (63 : Int)) (r_x3 : (0 : Int) ≤ x3.toInt ∧ x3.toInt ≤ (8 : Int)) (r_x5 : (0 : Int) ≤ x5.toInt ∧ x5.toInt ≤ (1 : Int)) (r_x6 : (-2 : Int) ≤ x6.toInt ∧ x6.toInt ≤ (3 : Int)) (m61 : (3 - x6.toInt) ≤ (N61 : Int)) : Ok (f_isAttacked_61s self61 x1 x3 x5 x6 I A) (fun o => o.2 = (I, A) ∧ ((0 : Int) ≤ o.1.toInt ∧ o.1.toInt ≤ (1 : Int))) := by
  unfold f_isAttacked_61s
  refine ok_if (fun c50 => ?_) (fun c50 => ?_)
  ·
    replace c50 := ti_leP c50 (show (3 : Int32).toInt = 3 from rfl) rfl
    refine ok_chk (nar_b (by omega) (by omega)) ?_
    exact ok_ret ⟨rfl, (show (0 : Int) ≤ x5.toInt ∧ x5.toInt ≤ (1 : Int) from (by omega))⟩
  ·
    replace c50 := ti_leN c50 (show (3 : Int32).toInt = 3 from rfl) rfl
    exact t_isAttacked_71   hself61 hI hA mFuel x1 x3 x5 x6 (-2 : Int32)  r_x1 r_x3 r_x5 (by omega) (by decide) m61 (by show _ < ((200000 : Nat) : Int); have z0 : (-2 : Int32).toInt = -2 := rfl; omega)
theorem t_isAttacked_61  {I : Nat → Int32} {A : Nat → Nat → Int32} (hI : TJ I) (hA : TK A) : ∀ (n : Nat) (x1 : Int32) (x3 : Int32) (x5 : Int32) (x6 : Int32),  ((0 : Int) ≤ x1.toInt ∧ x1.toInt ≤ (63 : Int)) → ((0 : Int) ≤ x3.toInt ∧ x3.toInt ≤ (8 : Int)) → ((0 : Int) ≤ x5.toInt ∧ x5.toInt ≤ (1 : Int)) → ((-2 : Int) ≤ x6.toInt ∧ x6.toInt ≤ (3 : Int)) → (3 - x6.toInt) < (n : Int) → Ok (f_isAttacked_61  n x1 x3 x5 x6 I A) (fun o => o.2 = (I, A) ∧ ((0 : Int) ≤ o.1.toInt ∧ o.1.toInt ≤ (1 : Int))) := by
  intro n
  induction n with
  | zero => intro x1 x3 x5 x6 g0 g1 g2 g3  hm; exfalso; omega
  | succ n ih =>
    intro x1 x3 x5 x6 g0 g1 g2 g3  hm
    exact t_isAttacked_61s   (N61 := n)  ih hI hA g0 g1 g2 g3  (by omega)
theorem t_isAttacked_14  {I : Nat → Int32} {A : Nat → Nat → Int32} {x1 : Int32} {x3 : Int32} {t0 : Int32} (hI : TJ I) (hA : TK A) (r_x1 : (0 : Int) ≤ x1.toInt ∧ x1.toInt ≤ (63 : Int)) (r_x3 : (0 : Int) ≤ x3.toInt ∧ x3.toInt ≤ (8 : Int)) (r_t0 : (-1 : Int) ≤ t0.toInt ∧ t0.toInt ≤ (1 : Int)) : Ok (f_isAttacked_14 x1 x3 t0 I A) (fun o => o.2 = (I, A) ∧ ((0 : Int) ≤ o.1.toInt ∧ o.1.toInt ≤ (1 : Int))) := by
  unfold f_isAttacked_14
  obtain ⟨r1, h_r1, p_r1⟩ := ro (t_step (x0 := x1) (x1 := (-1 : Int32)) (x2 := t0)  hI hA r_x1 (by decide) (by omega))
  refine ok_clR h_r1 ?_
  dsimp only at p_r1
  refine ok_bnd (fun v2 e51 => ?_)
  have t_v2 : v2.toInt = 1 + x3.toInt := ti_add e51 (show (1 : Int32).toInt = 1 from rfl) rfl (by omega) (by omega)
  obtain ⟨r3, h_r3, p_r3⟩ := ro (t_stands (x1 := r1) (x2 := v2)  hI hA (by omega))
  refine ok_clR h_r3 ?_
  dsimp only at p_r3
  refine ok_if (fun c52 => ?_) (fun c52 => ?_)
  ·
    replace c52 := ti_eqP c52 rfl (show (0 : Int32).toInt = 0 from rfl)
    obtain ⟨r4, h_r4, p_r4⟩ := ro (t_step (x0 := x1) (x1 := (1 : Int32)) (x2 := t0)  hI hA r_x1 (by decide) (by omega))
    refine ok_clR h_r4 ?_
    dsimp only at p_r4
    refine ok_bnd (fun v5 e53 => ?_)
    have t_v5 : v5.toInt = 1 + x3.toInt := ti_add e53 (show (1 : Int32).toInt = 1 from rfl) rfl (by omega) (by omega)
    obtain ⟨r6, h_r6, p_r6⟩ := ro (t_stands (x1 := r4) (x2 := v5)  hI hA (by omega))
    refine ok_clR h_r6 ?_
    dsimp only at p_r6
    refine ok_if (fun c54 => ?_) (fun c54 => ?_)
    ·
      replace c54 := ti_eqP c54 rfl (show (0 : Int32).toInt = 0 from rfl)
      unfold f_isAttacked_55
      exact t_isAttacked_61    hI hA mFuel x1 x3 (0 : Int32) (-2 : Int32)  r_x1 r_x3 (by decide) (by decide) (by show _ < ((200000 : Nat) : Int); have z0 : (0 : Int32).toInt = 0 := rfl; have z1 : (-2 : Int32).toInt = -2 := rfl; omega)
    ·
      replace c54 := ti_eqN c54 rfl (show (0 : Int32).toInt = 0 from rfl)
      unfold f_isAttacked_50
      unfold f_isAttacked_55
      exact t_isAttacked_61    hI hA mFuel x1 x3 (1 : Int32) (-2 : Int32)  r_x1 r_x3 (by decide) (by decide) (by show _ < ((200000 : Nat) : Int); have z0 : (1 : Int32).toInt = 1 := rfl; have z1 : (-2 : Int32).toInt = -2 := rfl; omega)
  ·
    replace c52 := ti_eqN c52 rfl (show (0 : Int32).toInt = 0 from rfl)
    unfold f_isAttacked_50
    unfold f_isAttacked_55
    exact t_isAttacked_61    hI hA mFuel x1 x3 (1 : Int32) (-2 : Int32)  r_x1 r_x3 (by decide) (by decide) (by show _ < ((200000 : Nat) : Int); have z0 : (1 : Int32).toInt = 1 := rfl; have z1 : (-2 : Int32).toInt = -2 := rfl; omega)
theorem t_isAttacked_0  {I : Nat → Int32} {A : Nat → Nat → Int32} {x1 : Int32} {x2 : Int32} (hI : TJ I) (hA : TK A) (r_x1 : (0 : Int) ≤ x1.toInt ∧ x1.toInt ≤ (63 : Int)) (r_x2 : (0 : Int) ≤ x2.toInt ∧ x2.toInt ≤ (1 : Int)) : Ok (f_isAttacked_0 x1 x2 I A) (fun o => o.2 = (I, A) ∧ ((0 : Int) ≤ o.1.toInt ∧ o.1.toInt ≤ (1 : Int))) := by
  unfold f_isAttacked_0
  refine ok_bnd (fun v1 e55 => ?_)
  have t_v1 : v1.toInt = 8 * x2.toInt := ti_mul e55 (show (8 : Int32).toInt = 8 from rfl) rfl (by omega) (by omega)
  refine ok_if (fun c56 => ?_) (fun c56 => ?_)
  ·
    replace c56 := ti_eqP c56 rfl (show (0 : Int32).toInt = 0 from rfl)
    exact t_isAttacked_14    (x1 := x1) (x3 := v1) (t0 := (-1 : Int32)) hI hA r_x1 (by omega) (by decide)
  ·
    replace c56 := ti_eqN c56 rfl (show (0 : Int32).toInt = 0 from rfl)
    exact t_isAttacked_14    (x1 := x1) (x3 := v1) (t0 := (1 : Int32)) hI hA r_x1 (by omega) (by decide)
theorem t_isAttacked  {I : Nat → Int32} {A : Nat → Nat → Int32} {x1 : Int32} {x2 : Int32} (hI : TJ I) (hA : TK A) (r_x1 : (0 : Int) ≤ x1.toInt ∧ x1.toInt ≤ (63 : Int)) (r_x2 : (0 : Int) ≤ x2.toInt ∧ x2.toInt ≤ (1 : Int)) : Ok (f_isAttacked x1 x2 I A) (fun o => o.2 = (I, A) ∧ ((0 : Int) ≤ o.1.toInt ∧ o.1.toInt ≤ (1 : Int))) := t_isAttacked_0  hI hA r_x1 r_x2
theorem t_kingOf_4s  {I : Nat → Int32} {A : Nat → Nat → Int32} {self4 : Int32 → Int32 → Int32 → (Nat → Int32) → (Nat → Nat → Int32) → Option (Int32 × MS)} {N4 : Nat} (hself4 : ∀ (x1 : Int32) (x2 : Int32) (x3 : Int32),  ((0 : Int) ≤ x1.toInt ∧ x1.toInt ≤ (1 : Int)) → ((0 : Int) ≤ x2.toInt ∧ x2.toInt ≤ (63 : Int)) → ((0 : Int) ≤ x3.toInt ∧ x3.toInt ≤ (64 : Int)) → (64 - x3.toInt) < (N4 : Int) → Ok (self4 x1 x2 x3 I A) (fun o => o.2 = (I, A) ∧ ((0 : Int) ≤ o.1.toInt ∧ o.1.toInt ≤ (63 : Int)))) {x1 : Int32} {x2 : Int32} {x3 : Int32} (hI : TJ I) (hA : TK A) (r_x1 : (0 : Int) ≤ x1.toInt ∧ x1.toInt ≤ (1 : Int)) (r_x2 : (0 : Int) ≤ x2.toInt ∧ x2.toInt ≤ (63 : Int)) (r_x3 : (0 : Int) ≤ x3.toInt ∧ x3.toInt ≤ (64 : Int)) (m4 : (64 - x3.toInt) ≤ (N4 : Int)) : Ok (f_kingOf_4s self4 x1 x2 x3 I A) (fun o => o.2 = (I, A) ∧ ((0 : Int) ≤ o.1.toInt ∧ o.1.toInt ≤ (63 : Int))) := by
  unfold f_kingOf_4s
  refine ok_if (fun c57 => ?_) (fun c57 => ?_)
  ·
    replace c57 := ti_leP c57 (show (64 : Int32).toInt = 64 from rfl) rfl
    exact ok_ret ⟨rfl, (show (0 : Int) ≤ x2.toInt ∧ x2.toInt ≤ (63 : Int) from (by omega))⟩
  ·
    replace c57 := ti_leN c57 (show (64 : Int32).toInt = 64 from rfl) rfl
    refine ok_chk (ti_in (by omega) (by omega)) ?_
    refine ok_bnd (fun v1 e58 => ?_)
    refine ok_bnd (fun v2 e59 => ?_)
    have t_v2 : v2.toInt = 8 * x1.toInt := ti_mul e59 (show (8 : Int32).toInt = 8 from rfl) rfl (by omega) (by omega)
    refine ok_bnd (fun v3 e60 => ?_)
    have t_v3 : v3.toInt = 6 + v2.toInt := ti_add e60 (show (6 : Int32).toInt = 6 from rfl) rfl (by omega) (by omega)
    refine ok_if (fun c61 => ?_) (fun c61 => ?_)
    ·
      replace c61 := ti_eqP c61 rfl rfl
      unfold f_kingOf_31
      refine ok_bnd (fun v1 e62 => ?_)
      have t_v1 : v1.toInt = x3.toInt + 1 := ti_add e62 rfl (show (1 : Int32).toInt = 1 from rfl) (by omega) (by omega)
      exact hself4 x1 x3 v1 r_x1 (by omega) (by omega) (by omega)
    ·
      replace c61 := ti_eqN c61 rfl rfl
      unfold f_kingOf_31
      refine ok_bnd (fun v1 e63 => ?_)
      have t_v1 : v1.toInt = x3.toInt + 1 := ti_add e63 rfl (show (1 : Int32).toInt = 1 from rfl) (by omega) (by omega)
      exact hself4 x1 x2 v1 r_x1 r_x2 (by omega) (by omega)
theorem t_kingOf_4  {I : Nat → Int32} {A : Nat → Nat → Int32} (hI : TJ I) (hA : TK A) : ∀ (n : Nat) (x1 : Int32) (x2 : Int32) (x3 : Int32),  ((0 : Int) ≤ x1.toInt ∧ x1.toInt ≤ (1 : Int)) → ((0 : Int) ≤ x2.toInt ∧ x2.toInt ≤ (63 : Int)) → ((0 : Int) ≤ x3.toInt ∧ x3.toInt ≤ (64 : Int)) → (64 - x3.toInt) < (n : Int) → Ok (f_kingOf_4  n x1 x2 x3 I A) (fun o => o.2 = (I, A) ∧ ((0 : Int) ≤ o.1.toInt ∧ o.1.toInt ≤ (63 : Int))) := by
  intro n
  induction n with
  | zero => intro x1 x2 x3 g0 g1 g2  hm; exfalso; omega
  | succ n ih =>
    intro x1 x2 x3 g0 g1 g2  hm
    exact t_kingOf_4s   (N4 := n)  ih hI hA g0 g1 g2  (by omega)
theorem t_kingOf_0  {I : Nat → Int32} {A : Nat → Nat → Int32} {x1 : Int32} (hI : TJ I) (hA : TK A) (r_x1 : (0 : Int) ≤ x1.toInt ∧ x1.toInt ≤ (1 : Int)) : Ok (f_kingOf_0 x1 I A) (fun o => o.2 = (I, A) ∧ ((0 : Int) ≤ o.1.toInt ∧ o.1.toInt ≤ (63 : Int))) := by
  unfold f_kingOf_0
  exact t_kingOf_4    hI hA mFuel x1 (0 : Int32) (0 : Int32)  r_x1 (by decide) (by decide) (by show _ < ((200000 : Nat) : Int); have z0 : (0 : Int32).toInt = 0 := rfl; have z1 : (0 : Int32).toInt = 0 := rfl; omega)
theorem t_kingOf  {I : Nat → Int32} {A : Nat → Nat → Int32} {x1 : Int32} (hI : TJ I) (hA : TK A) (r_x1 : (0 : Int) ≤ x1.toInt ∧ x1.toInt ≤ (1 : Int)) : Ok (f_kingOf x1 I A) (fun o => o.2 = (I, A) ∧ ((0 : Int) ≤ o.1.toInt ∧ o.1.toInt ≤ (63 : Int))) := t_kingOf_0  hI hA r_x1
theorem t_isInCheck_0  {I : Nat → Int32} {A : Nat → Nat → Int32} {x1 : Int32} (hI : TJ I) (hA : TK A) (r_x1 : (0 : Int) ≤ x1.toInt ∧ x1.toInt ≤ (1 : Int)) : Ok (f_isInCheck_0 x1 I A) (fun o => o.2 = (I, A) ∧ ((0 : Int) ≤ o.1.toInt ∧ o.1.toInt ≤ (1 : Int))) := by
  unfold f_isInCheck_0
  obtain ⟨r1, h_r1, p_r1⟩ := ro (t_kingOf (x1 := x1)  hI hA r_x1)
  refine ok_clR h_r1 ?_
  dsimp only at p_r1
  refine ok_bnd (fun v2 e64 => ?_)
  have t_v2 : v2.toInt = 1 - x1.toInt := ti_sub e64 (show (1 : Int32).toInt = 1 from rfl) rfl (by omega) (by omega)
  obtain ⟨r3, h_r3, p_r3⟩ := ro (t_isAttacked (x1 := r1) (x2 := v2)  hI hA (by omega) (by omega))
  refine ok_clR h_r3 ?_
  dsimp only at p_r3
  refine ok_chk (nar_b (by omega) (by omega)) ?_
  exact ok_ret ⟨rfl, (show (0 : Int) ≤ r3.toInt ∧ r3.toInt ≤ (1 : Int) from (by omega))⟩
theorem t_isInCheck  {I : Nat → Int32} {A : Nat → Nat → Int32} {x1 : Int32} (hI : TJ I) (hA : TK A) (r_x1 : (0 : Int) ≤ x1.toInt ∧ x1.toInt ≤ (1 : Int)) : Ok (f_isInCheck x1 I A) (fun o => o.2 = (I, A) ∧ ((0 : Int) ≤ o.1.toInt ∧ o.1.toInt ≤ (1 : Int))) := t_isInCheck_0  hI hA r_x1
theorem t_lose_0  {I : Nat → Int32} {A : Nat → Nat → Int32} {x1 : Int32} (hI : TJ I) (hA : TK A) : Ok (f_lose_0 x1 I A) (fun o => TJ o.2.1 ∧ TK o.2.2 ∧ True) := by
  unfold f_lose_0
  refine ok_if (fun c65 => ?_) (fun c65 => ?_)
  ·
    replace c65 := ti_eqP c65 rfl (show (4 : Int32).toInt = 4 from rfl)
    unfold f_lose_60
    refine ok_bnd (fun v1 e66 => ?_)
    refine ok_bnd (fun v2 e67 => ?_)
    refine ok_bnd (fun I3 e68 => ?_)
    have hI_I3 : TJ I3 := e68.symm ▸ tj_w hI (k := 26) rfl
    exact ok_ret ⟨hI_I3, hA, trivial⟩
  ·
    replace c65 := ti_eqN c65 rfl (show (4 : Int32).toInt = 4 from rfl)
    refine ok_if (fun c69 => ?_) (fun c69 => ?_)
    ·
      replace c69 := ti_eqP c69 rfl (show (7 : Int32).toInt = 7 from rfl)
      unfold f_lose_60
      refine ok_bnd (fun v1 e70 => ?_)
      refine ok_bnd (fun v2 e71 => ?_)
      refine ok_bnd (fun I3 e72 => ?_)
      have hI_I3 : TJ I3 := e72.symm ▸ tj_w hI (k := 26) rfl
      exact ok_ret ⟨hI_I3, hA, trivial⟩
    ·
      replace c69 := ti_eqN c69 rfl (show (7 : Int32).toInt = 7 from rfl)
      refine ok_if (fun c73 => ?_) (fun c73 => ?_)
      ·
        replace c73 := ti_eqP c73 rfl (show (0 : Int32).toInt = 0 from rfl)
        unfold f_lose_60
        refine ok_bnd (fun v1 e74 => ?_)
        refine ok_bnd (fun v2 e75 => ?_)
        refine ok_bnd (fun I3 e76 => ?_)
        have hI_I3 : TJ I3 := e76.symm ▸ tj_w hI (k := 26) rfl
        exact ok_ret ⟨hI_I3, hA, trivial⟩
      ·
        replace c73 := ti_eqN c73 rfl (show (0 : Int32).toInt = 0 from rfl)
        refine ok_if (fun c77 => ?_) (fun c77 => ?_)
        ·
          replace c77 := ti_eqP c77 rfl (show (60 : Int32).toInt = 60 from rfl)
          unfold f_lose_60
          refine ok_bnd (fun v1 e78 => ?_)
          refine ok_bnd (fun v2 e79 => ?_)
          refine ok_bnd (fun I3 e80 => ?_)
          have hI_I3 : TJ I3 := e80.symm ▸ tj_w hI (k := 26) rfl
          exact ok_ret ⟨hI_I3, hA, trivial⟩
        ·
          replace c77 := ti_eqN c77 rfl (show (60 : Int32).toInt = 60 from rfl)
          refine ok_if (fun c81 => ?_) (fun c81 => ?_)
          ·
            replace c81 := ti_eqP c81 rfl (show (63 : Int32).toInt = 63 from rfl)
            unfold f_lose_60
            refine ok_bnd (fun v1 e82 => ?_)
            refine ok_bnd (fun v2 e83 => ?_)
            refine ok_bnd (fun I3 e84 => ?_)
            have hI_I3 : TJ I3 := e84.symm ▸ tj_w hI (k := 26) rfl
            exact ok_ret ⟨hI_I3, hA, trivial⟩
          ·
            replace c81 := ti_eqN c81 rfl (show (63 : Int32).toInt = 63 from rfl)
            refine ok_if (fun c85 => ?_) (fun c85 => ?_)
            ·
              replace c85 := ti_eqP c85 rfl (show (56 : Int32).toInt = 56 from rfl)
              unfold f_lose_60
              refine ok_bnd (fun v1 e86 => ?_)
              refine ok_bnd (fun v2 e87 => ?_)
              refine ok_bnd (fun I3 e88 => ?_)
              have hI_I3 : TJ I3 := e88.symm ▸ tj_w hI (k := 26) rfl
              exact ok_ret ⟨hI_I3, hA, trivial⟩
            ·
              replace c85 := ti_eqN c85 rfl (show (56 : Int32).toInt = 56 from rfl)
              unfold f_lose_60
              refine ok_bnd (fun v1 e89 => ?_)
              refine ok_bnd (fun v2 e90 => ?_)
              refine ok_bnd (fun I3 e91 => ?_)
              have hI_I3 : TJ I3 := e91.symm ▸ tj_w hI (k := 26) rfl
              exact ok_ret ⟨hI_I3, hA, trivial⟩
theorem t_lose  {I : Nat → Int32} {A : Nat → Nat → Int32} {x1 : Int32} (hI : TJ I) (hA : TK A) : Ok (f_lose x1 I A) (fun o => TJ o.2.1 ∧ TK o.2.2 ∧ True) := t_lose_0  hI hA 
theorem t_isTaking_0  {I : Nat → Int32} {A : Nat → Nat → Int32} {x1 : Int32} (hI : TJ I) (hA : TK A) (r_x1 : (0 : Int) ≤ x1.toInt ∧ x1.toInt ≤ (24575 : Int)) : Ok (f_isTaking_0 x1 I A) (fun o => o.2 = (I, A) ∧ ((0 : Int) ≤ o.1.toInt ∧ o.1.toInt ≤ (1 : Int))) := by
  unfold f_isTaking_0
  refine ok_bnd (fun v1 e92 => ?_)
  have t_v1 : v1.toInt = x1.toInt % 64 := ti_rem e92 rfl (show (64 : Int32).toInt = 64 from rfl) (by omega) (by decide)
  refine ok_bnd (fun v2 e93 => ?_)
  have t_v2 : v2.toInt = x1.toInt / 64 := ti_div e93 rfl (show (64 : Int32).toInt = 64 from rfl) (by omega) (by decide)
  refine ok_bnd (fun v3 e94 => ?_)
  have t_v3 : v3.toInt = v2.toInt % 64 := ti_rem e94 rfl (show (64 : Int32).toInt = 64 from rfl) (by omega) (by decide)
  refine ok_chk (ti_in (by omega) (by omega)) ?_
  refine ok_bnd (fun v4 e95 => ?_)
  refine ok_if (fun c96 => ?_) (fun c96 => ?_)
  ·
    replace c96 := ti_eqP c96 rfl (show (0 : Int32).toInt = 0 from rfl)
    refine ok_chk (ti_in (by omega) (by omega)) ?_
    refine ok_bnd (fun v5 e97 => ?_)
    obtain ⟨r6, h_r6, p_r6⟩ := ro (t_kind (x0 := v5)  hI hA )
    refine ok_clR h_r6 ?_
    dsimp only at p_r6
    refine ok_if (fun c98 => ?_) (fun c98 => ?_)
    ·
      replace c98 := ti_eqP c98 rfl (show (1 : Int32).toInt = 1 from rfl)
      refine ok_bnd (fun v7 e99 => ?_)
      have t_v7 : v7.toInt = v1.toInt % 8 := ti_rem e99 rfl (show (8 : Int32).toInt = 8 from rfl) (by omega) (by decide)
      refine ok_bnd (fun v8 e100 => ?_)
      have t_v8 : v8.toInt = v3.toInt % 8 := ti_rem e100 rfl (show (8 : Int32).toInt = 8 from rfl) (by omega) (by decide)
      refine ok_if (fun c101 => ?_) (fun c101 => ?_)
      ·
        replace c101 := ti_eqP c101 rfl rfl
        unfold f_isTaking_50
        unfold f_isTaking_51
        refine ok_chk (by decide) ?_
        exact ok_ret ⟨rfl, (show (0 : Int) ≤ (0 : Int32).toInt ∧ (0 : Int32).toInt ≤ (1 : Int) from (by decide))⟩
      ·
        replace c101 := ti_eqN c101 rfl rfl
        unfold f_isTaking_46
        unfold f_isTaking_51
        refine ok_chk (by decide) ?_
        exact ok_ret ⟨rfl, (show (0 : Int) ≤ (1 : Int32).toInt ∧ (1 : Int32).toInt ≤ (1 : Int) from (by decide))⟩
    ·
      replace c98 := ti_eqN c98 rfl (show (1 : Int32).toInt = 1 from rfl)
      unfold f_isTaking_50
      unfold f_isTaking_51
      refine ok_chk (by decide) ?_
      exact ok_ret ⟨rfl, (show (0 : Int) ≤ (0 : Int32).toInt ∧ (0 : Int32).toInt ≤ (1 : Int) from (by decide))⟩
  ·
    replace c96 := ti_eqN c96 rfl (show (0 : Int32).toInt = 0 from rfl)
    unfold f_isTaking_46
    unfold f_isTaking_51
    refine ok_chk (by decide) ?_
    exact ok_ret ⟨rfl, (show (0 : Int) ≤ (1 : Int32).toInt ∧ (1 : Int32).toInt ≤ (1 : Int) from (by decide))⟩
theorem t_isTaking  {I : Nat → Int32} {A : Nat → Nat → Int32} {x1 : Int32} (hI : TJ I) (hA : TK A) (r_x1 : (0 : Int) ≤ x1.toInt ∧ x1.toInt ≤ (24575 : Int)) : Ok (f_isTaking x1 I A) (fun o => o.2 = (I, A) ∧ ((0 : Int) ≤ o.1.toInt ∧ o.1.toInt ≤ (1 : Int))) := t_isTaking_0  hI hA r_x1
theorem t_make_319 {nn : Int} {I : Nat → Int32} {A : Nat → Nat → Int32} (hI : TJ I) (hA : TK A) (q0 : (I 29).toInt ≤ nn ∧ nn ≤ 1999) : Ok (f_make_319 I A) (fun o => TJ o.2.1 ∧ TK o.2.2 ∧ ((o.2.1 29).toInt ≤ nn + 1)) := by
  unfold f_make_319
  have b_I_29 := tI_29 hI
  have b_I_25 := tI_25 hI
  refine ok_bnd (fun v1 e102 => ?_)
  have t_v1 : v1.toInt = (I 29).toInt + (I 25).toInt := ti_add e102 rfl rfl (by omega) (by omega)
  refine ok_bnd (fun I2 e103 => ?_)
  have hI_I2 : TJ I2 := e103.symm ▸ tj_u hI (k := 29) (show (-1 : Int) ≤ v1.toInt from (by omega)) (show v1.toInt ≤ (2000 : Int) from (by omega))
  have : (I2 29).toInt = v1.toInt := by rw [e103]; exact rfl
  have : (I2 25).toInt = (I 25).toInt := by rw [e103]; rfl
  refine ok_bnd (fun v3 e104 => ?_)
  have b_I2_25 := tI_25 hI_I2
  have t_v3 : v3.toInt = 1 - (I2 25).toInt := ti_sub e104 (show (1 : Int32).toInt = 1 from rfl) rfl (by omega) (by omega)
  refine ok_bnd (fun I4 e105 => ?_)
  have hI_I4 : TJ I4 := e105.symm ▸ tj_u hI_I2 (k := 25) (show (0 : Int) ≤ v3.toInt from (by omega)) (show v3.toInt ≤ (1 : Int) from (by omega))
  have : (I4 29).toInt = (I2 29).toInt := by rw [e105]; rfl
  have : (I4 25).toInt = v3.toInt := by rw [e105]; exact rfl
  exact ok_ret ⟨hI_I4, hA, (by show (I4 29).toInt ≤ nn + 1; have z : (0 : Int32).toInt = 0 := rfl; omega)⟩
theorem t_make_263 {nn : Int} {I : Nat → Int32} {A : Nat → Nat → Int32} {x2 : Int32} {x3 : Int32} (hI : TJ I) (hA : TK A) (r_x2 : (0 : Int) ≤ x2.toInt ∧ x2.toInt ≤ (63 : Int)) (r_x3 : (0 : Int) ≤ x3.toInt ∧ x3.toInt ≤ (63 : Int)) (q0 : (I 29).toInt ≤ nn ∧ nn ≤ 1999) : Ok (f_make_263 x2 x3 I A) (fun o => TJ o.2.1 ∧ TK o.2.2 ∧ ((o.2.1 29).toInt ≤ nn + 1)) := by
  unfold f_make_263
  have b_I_29 := tI_29 hI
  have b_I_25 := tI_25 hI
  refine ok_bnd (fun v1 e106 => ?_)
  have t_v1 : v1.toInt = 1 - (I 25).toInt := ti_sub e106 (show (1 : Int32).toInt = 1 from rfl) rfl (by omega) (by omega)
  refine ok_bnd (fun v2 e107 => ?_)
  have t_v2 : v2.toInt = 8 * v1.toInt := ti_mul e107 (show (8 : Int32).toInt = 8 from rfl) rfl (by omega) (by omega)
  refine ok_bnd (fun v3 e108 => ?_)
  have t_v3 : v3.toInt = 1 + v2.toInt := ti_add e108 (show (1 : Int32).toInt = 1 from rfl) rfl (by omega) (by omega)
  obtain ⟨r4, h_r4, p_r4⟩ := ro (t_step (x0 := x3) (x1 := (-1 : Int32)) (x2 := (0 : Int32))  hI hA r_x3 (by decide) (by decide))
  refine ok_clR h_r4 ?_
  dsimp only at p_r4
  obtain ⟨r5, h_r5, p_r5⟩ := ro (t_stands (x1 := r4) (x2 := v3)  hI hA (by omega))
  refine ok_clR h_r5 ?_
  dsimp only at p_r5
  refine ok_if (fun c109 => ?_) (fun c109 => ?_)
  ·
    replace c109 := ti_eqP c109 rfl (show (0 : Int32).toInt = 0 from rfl)
    obtain ⟨r6, h_r6, p_r6⟩ := ro (t_step (x0 := x3) (x1 := (1 : Int32)) (x2 := (0 : Int32))  hI hA r_x3 (by decide) (by decide))
    refine ok_clR h_r6 ?_
    dsimp only at p_r6
    obtain ⟨r7, h_r7, p_r7⟩ := ro (t_stands (x1 := r6) (x2 := v3)  hI hA (by omega))
    refine ok_clR h_r7 ?_
    dsimp only at p_r7
    refine ok_if (fun c110 => ?_) (fun c110 => ?_)
    ·
      replace c110 := ti_eqP c110 rfl (show (0 : Int32).toInt = 0 from rfl)
      unfold f_make_316
      refine ok_bnd (fun I1 e111 => ?_)
      have hI_I1 : TJ I1 := e111.symm ▸ tj_w hI (k := 27) rfl
      have : (I1 29).toInt = (I 29).toInt := by rw [e111]; rfl
      have : (I1 25).toInt = (I 25).toInt := by rw [e111]; rfl
      have b_I1_29 := tI_29 hI_I1
      exact t_make_319 (nn := nn)    hI_I1 hA (by omega)
    ·
      replace c110 := ti_eqN c110 rfl (show (0 : Int32).toInt = 0 from rfl)
      unfold f_make_307
      refine ok_bnd (fun v1 e112 => ?_)
      have t_v1 : v1.toInt = x2.toInt + x3.toInt := ti_add e112 rfl rfl (by omega) (by omega)
      refine ok_bnd (fun v2 e113 => ?_)
      have t_v2 : v2.toInt = v1.toInt / 2 := ti_div e113 rfl (show (2 : Int32).toInt = 2 from rfl) (by omega) (by decide)
      unfold f_make_316
      refine ok_bnd (fun I1 e114 => ?_)
      have hI_I1 : TJ I1 := e114.symm ▸ tj_w hI (k := 27) rfl
      have : (I1 29).toInt = (I 29).toInt := by rw [e114]; rfl
      have : (I1 25).toInt = (I 25).toInt := by rw [e114]; rfl
      have b_I1_29 := tI_29 hI_I1
      exact t_make_319 (nn := nn)    hI_I1 hA (by omega)
  ·
    replace c109 := ti_eqN c109 rfl (show (0 : Int32).toInt = 0 from rfl)
    unfold f_make_307
    refine ok_bnd (fun v1 e115 => ?_)
    have t_v1 : v1.toInt = x2.toInt + x3.toInt := ti_add e115 rfl rfl (by omega) (by omega)
    refine ok_bnd (fun v2 e116 => ?_)
    have t_v2 : v2.toInt = v1.toInt / 2 := ti_div e116 rfl (show (2 : Int32).toInt = 2 from rfl) (by omega) (by decide)
    unfold f_make_316
    refine ok_bnd (fun I1 e117 => ?_)
    have hI_I1 : TJ I1 := e117.symm ▸ tj_w hI (k := 27) rfl
    have : (I1 29).toInt = (I 29).toInt := by rw [e117]; rfl
    have : (I1 25).toInt = (I 25).toInt := by rw [e117]; rfl
    have b_I1_29 := tI_29 hI_I1
    exact t_make_319 (nn := nn)    hI_I1 hA (by omega)
theorem t_make_226 {nn : Int} {I : Nat → Int32} {A : Nat → Nat → Int32} {x2 : Int32} {x3 : Int32} {x6 : Int32} {t0 : Int32} {t1 : Int32} (hI : TJ I) (hA : TK A) (r_x2 : (0 : Int) ≤ x2.toInt ∧ x2.toInt ≤ (63 : Int)) (r_x3 : (0 : Int) ≤ x3.toInt ∧ x3.toInt ≤ (63 : Int)) (r_x6 : (0 : Int) ≤ x6.toInt ∧ x6.toInt ≤ (1 : Int)) (r_t1 : (0 : Int) ≤ t1.toInt ∧ t1.toInt ≤ (63 : Int)) (q0 : (I 29).toInt ≤ nn ∧ nn ≤ 1999) : Ok (f_make_226 x2 x3 x6 t0 t1 I A) (fun o => TJ o.2.1 ∧ TK o.2.2 ∧ ((o.2.1 29).toInt ≤ nn + 1)) := by
  unfold f_make_226
  have b_I_29 := tI_29 hI
  have b_I_25 := tI_25 hI
  refine ok_chk (ti_in (by omega) (by omega)) ?_
  refine ok_bnd (fun A1 e118 => ?_)
  have hA_A1 : TK A1 := e118.symm ▸ tk_w hA (j := 24) rfl
  obtain ⟨⟨r2, Ic2, Ac2⟩, h_r2, hI_Ic2, hA_Ac2, -⟩ := t_lose (x1 := x2)  hI hA_A1 
  replace hI_Ic2 : TJ Ic2 := hI_Ic2
  replace hA_Ac2 : TK Ac2 := hA_Ac2
  refine ok_clR h_r2 ?_
  have f_r2 := fw_lose h_r2
  have : (Ic2 29).toInt = (I 29).toInt := congrArg Int32.toInt (f_r2.1 29 (by decide))
  have : (Ic2 25).toInt = (I 25).toInt := congrArg Int32.toInt (f_r2.1 25 (by decide))
  obtain ⟨⟨r3, Ic3, Ac3⟩, h_r3, hI_Ic3, hA_Ac3, -⟩ := t_lose (x1 := x3)  hI_Ic2 hA_Ac2 
  replace hI_Ic3 : TJ Ic3 := hI_Ic3
  replace hA_Ac3 : TK Ac3 := hA_Ac3
  refine ok_clR h_r3 ?_
  have f_r3 := fw_lose h_r3
  have : (Ic3 29).toInt = (Ic2 29).toInt := congrArg Int32.toInt (f_r3.1 29 (by decide))
  have : (Ic3 25).toInt = (Ic2 25).toInt := congrArg Int32.toInt (f_r3.1 25 (by decide))
  refine ok_bnd (fun I4 e119 => ?_)
  have hI_I4 : TJ I4 := e119.symm ▸ tj_w hI_Ic3 (k := 27) rfl
  have : (I4 29).toInt = (Ic3 29).toInt := by rw [e119]; rfl
  have : (I4 25).toInt = (Ic3 25).toInt := by rw [e119]; rfl
  refine ok_if (fun c120 => ?_) (fun c120 => ?_)
  ·
    replace c120 := ti_eqP c120 rfl (show (0 : Int32).toInt = 0 from rfl)
    have b_I4_29 := tI_29 hI_I4
    exact t_make_319 (nn := nn)    hI_I4 hA_Ac3 (by omega)
  ·
    replace c120 := ti_eqN c120 rfl (show (0 : Int32).toInt = 0 from rfl)
    refine ok_bnd (fun v5 e121 => ?_)
    have t_v5 : v5.toInt = x2.toInt + 16 := ti_add e121 rfl (show (16 : Int32).toInt = 16 from rfl) (by omega) (by omega)
    refine ok_if (fun c122 => ?_) (fun c122 => ?_)
    ·
      replace c122 := ti_eqP c122 rfl rfl
      have b_I4_29 := tI_29 hI_I4
      exact t_make_263 (nn := nn)   (x2 := x2) (x3 := x3) hI_I4 hA_Ac3 r_x2 r_x3 (by omega)
    ·
      replace c122 := ti_eqN c122 rfl rfl
      refine ok_bnd (fun v6 e123 => ?_)
      have t_v6 : v6.toInt = x2.toInt - 16 := ti_sub e123 rfl (show (16 : Int32).toInt = 16 from rfl) (by omega) (by omega)
      refine ok_if (fun c124 => ?_) (fun c124 => ?_)
      ·
        replace c124 := ti_eqP c124 rfl rfl
        have b_I4_29 := tI_29 hI_I4
        exact t_make_263 (nn := nn)   (x2 := x2) (x3 := x3) hI_I4 hA_Ac3 r_x2 r_x3 (by omega)
      ·
        replace c124 := ti_eqN c124 rfl rfl
        have b_I4_29 := tI_29 hI_I4
        exact t_make_319 (nn := nn)    hI_I4 hA_Ac3 (by omega)
theorem t_make_194 {nn : Int} {I : Nat → Int32} {A : Nat → Nat → Int32} {x2 : Int32} {x3 : Int32} {x4 : Int32} {x5 : Int32} {x6 : Int32} (hI : TJ I) (hA : TK A) (r_x2 : (0 : Int) ≤ x2.toInt ∧ x2.toInt ≤ (63 : Int)) (r_x3 : (0 : Int) ≤ x3.toInt ∧ x3.toInt ≤ (63 : Int)) (r_x4 : (0 : Int) ≤ x4.toInt ∧ x4.toInt ≤ (6 : Int)) (r_x6 : (0 : Int) ≤ x6.toInt ∧ x6.toInt ≤ (1 : Int)) (q0 : (I 29).toInt ≤ nn ∧ nn ≤ 1999) : Ok (f_make_194 x2 x3 x4 x5 x6 I A) (fun o => TJ o.2.1 ∧ TK o.2.2 ∧ ((o.2.1 29).toInt ≤ nn + 1)) := by
  unfold f_make_194
  have b_I_29 := tI_29 hI
  have b_I_25 := tI_25 hI
  refine ok_chk (ti_in (by omega) (by omega)) ?_
  refine ok_bnd (fun A1 e125 => ?_)
  have hA_A1 : TK A1 := e125.symm ▸ tk_w hA (j := 24) rfl
  refine ok_if (fun c126 => ?_) (fun c126 => ?_)
  ·
    replace c126 := ti_leP c126 rfl (show (0 : Int32).toInt = 0 from rfl)
    exact t_make_226 (nn := nn)   (x2 := x2) (x3 := x3) (x6 := x6) (t0 := x5) (t1 := x3) hI hA_A1 r_x2 r_x3 r_x6 r_x3 q0
  ·
    replace c126 := ti_leN c126 rfl (show (0 : Int32).toInt = 0 from rfl)
    refine ok_bnd (fun v2 e127 => ?_)
    have t_v2 : v2.toInt = 8 * (I 25).toInt := ti_mul e127 (show (8 : Int32).toInt = 8 from rfl) rfl (by omega) (by omega)
    refine ok_bnd (fun v3 e128 => ?_)
    have t_v3 : v3.toInt = x4.toInt + v2.toInt := ti_add e128 rfl rfl (by omega) (by omega)
    exact t_make_226 (nn := nn)   (x2 := x2) (x3 := x3) (x6 := x6) (t0 := v3) (t1 := x3) hI hA_A1 r_x2 r_x3 r_x6 r_x3 q0
theorem t_make_167 {nn : Int} {I : Nat → Int32} {A : Nat → Nat → Int32} {x2 : Int32} {x3 : Int32} {x4 : Int32} {x5 : Int32} {x6 : Int32} {t0 : Int32} (hI : TJ I) (hA : TK A) (r_x2 : (0 : Int) ≤ x2.toInt ∧ x2.toInt ≤ (63 : Int)) (r_x3 : (0 : Int) ≤ x3.toInt ∧ x3.toInt ≤ (63 : Int)) (r_x4 : (0 : Int) ≤ x4.toInt ∧ x4.toInt ≤ (6 : Int)) (r_x6 : (0 : Int) ≤ x6.toInt ∧ x6.toInt ≤ (1 : Int)) (r_t0 : (0 : Int) ≤ t0.toInt ∧ t0.toInt ≤ (63 : Int)) (q0 : (I 29).toInt ≤ nn ∧ nn ≤ 1999) : Ok (f_make_167 x2 x3 x4 x5 x6 t0 I A) (fun o => TJ o.2.1 ∧ TK o.2.2 ∧ ((o.2.1 29).toInt ≤ nn + 1)) := by
  unfold f_make_167
  have b_I_29 := tI_29 hI
  have b_I_25 := tI_25 hI
  refine ok_bnd (fun v1 e129 => ?_)
  have t_v1 : v1.toInt = x2.toInt + x3.toInt := ti_add e129 rfl rfl (by omega) (by omega)
  refine ok_bnd (fun v2 e130 => ?_)
  have t_v2 : v2.toInt = v1.toInt / 2 := ti_div e130 rfl (show (2 : Int32).toInt = 2 from rfl) (by omega) (by decide)
  refine ok_chk (ti_in (by omega) (by omega)) ?_
  refine ok_bnd (fun v3 e131 => ?_)
  refine ok_chk (ti_in (by omega) (by omega)) ?_
  refine ok_bnd (fun A4 e132 => ?_)
  have hA_A4 : TK A4 := e132.symm ▸ tk_w hA (j := 24) rfl
  refine ok_chk (ti_in (by omega) (by omega)) ?_
  refine ok_bnd (fun A5 e133 => ?_)
  have hA_A5 : TK A5 := e133.symm ▸ tk_w hA_A4 (j := 24) rfl
  exact t_make_194 (nn := nn)   (x2 := x2) (x3 := x3) (x4 := x4) (x5 := x5) (x6 := x6) hI hA_A5 r_x2 r_x3 r_x4 r_x6 q0
theorem t_make_149 {nn : Int} {I : Nat → Int32} {A : Nat → Nat → Int32} {x2 : Int32} {x3 : Int32} {x4 : Int32} {x5 : Int32} {x6 : Int32} (hI : TJ I) (hA : TK A) (r_x2 : (0 : Int) ≤ x2.toInt ∧ x2.toInt ≤ (63 : Int)) (r_x3 : (0 : Int) ≤ x3.toInt ∧ x3.toInt ≤ (63 : Int)) (r_x4 : (0 : Int) ≤ x4.toInt ∧ x4.toInt ≤ (6 : Int)) (r_x6 : (0 : Int) ≤ x6.toInt ∧ x6.toInt ≤ (1 : Int)) (q0 : (I 29).toInt ≤ nn ∧ nn ≤ 1999) (q1 : x2.toInt % 8 = 4) : Ok (f_make_149 x2 x3 x4 x5 x6 I A) (fun o => TJ o.2.1 ∧ TK o.2.2 ∧ ((o.2.1 29).toInt ≤ nn + 1)) := by
  unfold f_make_149
  have b_I_29 := tI_29 hI
  have b_I_25 := tI_25 hI
  refine ok_bnd (fun v1 e134 => ?_)
  have t_v1 : v1.toInt = x3.toInt % 8 := ti_rem e134 rfl (show (8 : Int32).toInt = 8 from rfl) (by omega) (by decide)
  refine ok_if (fun c135 => ?_) (fun c135 => ?_)
  ·
    replace c135 := ti_eqP c135 rfl (show (6 : Int32).toInt = 6 from rfl)
    refine ok_bnd (fun v3 e136 => ?_)
    have t_v3 : v3.toInt = x2.toInt + 3 := ti_add e136 rfl (show (3 : Int32).toInt = 3 from rfl) (by omega) (by omega)
    exact t_make_167 (nn := nn)   (x2 := x2) (x3 := x3) (x4 := x4) (x5 := x5) (x6 := x6) (t0 := v3) hI hA r_x2 r_x3 r_x4 r_x6 (by omega) q0
  ·
    replace c135 := ti_eqN c135 rfl (show (6 : Int32).toInt = 6 from rfl)
    refine ok_bnd (fun v2 e137 => ?_)
    have t_v2 : v2.toInt = x2.toInt - 4 := ti_sub e137 rfl (show (4 : Int32).toInt = 4 from rfl) (by omega) (by omega)
    exact t_make_167 (nn := nn)   (x2 := x2) (x3 := x3) (x4 := x4) (x5 := x5) (x6 := x6) (t0 := v2) hI hA r_x2 r_x3 r_x4 r_x6 (by omega) q0
theorem t_make_114 {nn : Int} {I : Nat → Int32} {A : Nat → Nat → Int32} {x2 : Int32} {x3 : Int32} {x4 : Int32} {x5 : Int32} {x6 : Int32} (hI : TJ I) (hA : TK A) (r_x2 : (0 : Int) ≤ x2.toInt ∧ x2.toInt ≤ (63 : Int)) (r_x3 : (0 : Int) ≤ x3.toInt ∧ x3.toInt ≤ (63 : Int)) (r_x4 : (0 : Int) ≤ x4.toInt ∧ x4.toInt ≤ (6 : Int)) (r_x6 : (0 : Int) ≤ x6.toInt ∧ x6.toInt ≤ (1 : Int)) (q0 : (I 29).toInt ≤ nn ∧ nn ≤ 1999) : Ok (f_make_114 x2 x3 x4 x5 x6 I A) (fun o => TJ o.2.1 ∧ TK o.2.2 ∧ ((o.2.1 29).toInt ≤ nn + 1)) := by
  unfold f_make_114
  have b_I_29 := tI_29 hI
  have b_I_25 := tI_25 hI
  obtain ⟨r1, h_r1, p_r1⟩ := ro (t_kind (x0 := x5)  hI hA )
  refine ok_clR h_r1 ?_
  dsimp only at p_r1
  refine ok_if (fun c138 => ?_) (fun c138 => ?_)
  ·
    replace c138 := ti_eqP c138 rfl (show (6 : Int32).toInt = 6 from rfl)
    refine ok_bnd (fun v2 e139 => ?_)
    have t_v2 : v2.toInt = x2.toInt % 8 := ti_rem e139 rfl (show (8 : Int32).toInt = 8 from rfl) (by omega) (by decide)
    refine ok_if (fun c140 => ?_) (fun c140 => ?_)
    ·
      replace c140 := ti_eqP c140 rfl (show (4 : Int32).toInt = 4 from rfl)
      refine ok_bnd (fun v3 e141 => ?_)
      have t_v3 : v3.toInt = x3.toInt % 8 := ti_rem e141 rfl (show (8 : Int32).toInt = 8 from rfl) (by omega) (by decide)
      refine ok_if (fun c142 => ?_) (fun c142 => ?_)
      ·
        replace c142 := ti_eqP c142 rfl (show (6 : Int32).toInt = 6 from rfl)
        exact t_make_149 (nn := nn)   (x2 := x2) (x3 := x3) (x4 := x4) (x5 := x5) (x6 := x6) hI hA r_x2 r_x3 r_x4 r_x6 q0 (by omega)
      ·
        replace c142 := ti_eqN c142 rfl (show (6 : Int32).toInt = 6 from rfl)
        refine ok_bnd (fun v4 e143 => ?_)
        have t_v4 : v4.toInt = x3.toInt % 8 := ti_rem e143 rfl (show (8 : Int32).toInt = 8 from rfl) (by omega) (by decide)
        refine ok_if (fun c144 => ?_) (fun c144 => ?_)
        ·
          replace c144 := ti_eqP c144 rfl (show (2 : Int32).toInt = 2 from rfl)
          exact t_make_149 (nn := nn)   (x2 := x2) (x3 := x3) (x4 := x4) (x5 := x5) (x6 := x6) hI hA r_x2 r_x3 r_x4 r_x6 q0 (by omega)
        ·
          replace c144 := ti_eqN c144 rfl (show (2 : Int32).toInt = 2 from rfl)
          exact t_make_194 (nn := nn)   (x2 := x2) (x3 := x3) (x4 := x4) (x5 := x5) (x6 := x6) hI hA r_x2 r_x3 r_x4 r_x6 q0
    ·
      replace c140 := ti_eqN c140 rfl (show (4 : Int32).toInt = 4 from rfl)
      exact t_make_194 (nn := nn)   (x2 := x2) (x3 := x3) (x4 := x4) (x5 := x5) (x6 := x6) hI hA r_x2 r_x3 r_x4 r_x6 q0
  ·
    replace c138 := ti_eqN c138 rfl (show (6 : Int32).toInt = 6 from rfl)
    exact t_make_194 (nn := nn)   (x2 := x2) (x3 := x3) (x4 := x4) (x5 := x5) (x6 := x6) hI hA r_x2 r_x3 r_x4 r_x6 q0
theorem t_make_68 {nn : Int} {I : Nat → Int32} {A : Nat → Nat → Int32} {x2 : Int32} {x3 : Int32} {x4 : Int32} {x5 : Int32} {x6 : Int32} {t0 : Int32} (hI : TJ I) (hA : TK A) (r_x2 : (0 : Int) ≤ x2.toInt ∧ x2.toInt ≤ (63 : Int)) (r_x3 : (0 : Int) ≤ x3.toInt ∧ x3.toInt ≤ (63 : Int)) (r_x4 : (0 : Int) ≤ x4.toInt ∧ x4.toInt ≤ (6 : Int)) (r_x6 : (0 : Int) ≤ x6.toInt ∧ x6.toInt ≤ (1 : Int)) (q0 : (I 29).toInt ≤ nn ∧ nn ≤ 1999) : Ok (f_make_68 x2 x3 x4 x5 x6 t0 I A) (fun o => TJ o.2.1 ∧ TK o.2.2 ∧ ((o.2.1 29).toInt ≤ nn + 1)) := by
  unfold f_make_68
  have b_I_29 := tI_29 hI
  have b_I_25 := tI_25 hI
  refine ok_bnd (fun I1 e145 => ?_)
  have hI_I1 : TJ I1 := e145.symm ▸ tj_w hI (k := 28) rfl
  have : (I1 29).toInt = (I 29).toInt := by rw [e145]; rfl
  have : (I1 25).toInt = (I 25).toInt := by rw [e145]; rfl
  refine ok_if (fun c146 => ?_) (fun c146 => ?_)
  ·
    replace c146 := ti_eqP c146 rfl (show (0 : Int32).toInt = 0 from rfl)
    have b_I1_29 := tI_29 hI_I1
    exact t_make_114 (nn := nn)   (x2 := x2) (x3 := x3) (x4 := x4) (x5 := x5) (x6 := x6) hI_I1 hA r_x2 r_x3 r_x4 r_x6 (by omega)
  ·
    replace c146 := ti_eqN c146 rfl (show (0 : Int32).toInt = 0 from rfl)
    refine ok_chk (ti_in (by omega) (by omega)) ?_
    refine ok_bnd (fun v2 e147 => ?_)
    refine ok_if (fun c148 => ?_) (fun c148 => ?_)
    ·
      replace c148 := ti_eqP c148 rfl (show (0 : Int32).toInt = 0 from rfl)
      refine ok_bnd (fun v3 e149 => ?_)
      have t_v3 : v3.toInt = x2.toInt % 8 := ti_rem e149 rfl (show (8 : Int32).toInt = 8 from rfl) (by omega) (by decide)
      refine ok_bnd (fun v4 e150 => ?_)
      have t_v4 : v4.toInt = x3.toInt % 8 := ti_rem e150 rfl (show (8 : Int32).toInt = 8 from rfl) (by omega) (by decide)
      refine ok_if (fun c151 => ?_) (fun c151 => ?_)
      ·
        replace c151 := ti_eqP c151 rfl rfl
        have b_I1_29 := tI_29 hI_I1
        exact t_make_114 (nn := nn)   (x2 := x2) (x3 := x3) (x4 := x4) (x5 := x5) (x6 := x6) hI_I1 hA r_x2 r_x3 r_x4 r_x6 (by omega)
      ·
        replace c151 := ti_eqN c151 rfl rfl
        refine ok_bnd (fun v5 e152 => ?_)
        have t_v5 : v5.toInt = x2.toInt / 8 := ti_div e152 rfl (show (8 : Int32).toInt = 8 from rfl) (by omega) (by decide)
        refine ok_bnd (fun v6 e153 => ?_)
        have t_v6 : v6.toInt = v5.toInt * 8 := ti_mul e153 rfl (show (8 : Int32).toInt = 8 from rfl) (by omega) (by omega)
        refine ok_bnd (fun v7 e154 => ?_)
        have t_v7 : v7.toInt = x3.toInt % 8 := ti_rem e154 rfl (show (8 : Int32).toInt = 8 from rfl) (by omega) (by decide)
        refine ok_bnd (fun v8 e155 => ?_)
        have t_v8 : v8.toInt = v6.toInt + v7.toInt := ti_add e155 rfl rfl (by omega) (by omega)
        refine ok_chk (ti_in (by omega) (by omega)) ?_
        refine ok_bnd (fun A9 e156 => ?_)
        have hA_A9 : TK A9 := e156.symm ▸ tk_w hA (j := 24) rfl
        have b_I1_29 := tI_29 hI_I1
        exact t_make_114 (nn := nn)   (x2 := x2) (x3 := x3) (x4 := x4) (x5 := x5) (x6 := x6) hI_I1 hA_A9 r_x2 r_x3 r_x4 r_x6 (by omega)
    ·
      replace c148 := ti_eqN c148 rfl (show (0 : Int32).toInt = 0 from rfl)
      have b_I1_29 := tI_29 hI_I1
      exact t_make_114 (nn := nn)   (x2 := x2) (x3 := x3) (x4 := x4) (x5 := x5) (x6 := x6) hI_I1 hA r_x2 r_x3 r_x4 r_x6 (by omega)
theorem t_make_42 {nn : Int} {I : Nat → Int32} {A : Nat → Nat → Int32} {x1 : Int32} {x2 : Int32} {x3 : Int32} {x4 : Int32} {x5 : Int32} {t0 : Int32} (hI : TJ I) (hA : TK A) (r_x1 : (0 : Int) ≤ x1.toInt ∧ x1.toInt ≤ (24575 : Int)) (r_x2 : (0 : Int) ≤ x2.toInt ∧ x2.toInt ≤ (63 : Int)) (r_x3 : (0 : Int) ≤ x3.toInt ∧ x3.toInt ≤ (63 : Int)) (r_x4 : (0 : Int) ≤ x4.toInt ∧ x4.toInt ≤ (6 : Int)) (r_t0 : (0 : Int) ≤ t0.toInt ∧ t0.toInt ≤ (1 : Int)) (q0 : (I 29).toInt ≤ nn ∧ nn ≤ 1999) : Ok (f_make_42 x1 x2 x3 x4 x5 t0 I A) (fun o => TJ o.2.1 ∧ TK o.2.2 ∧ ((o.2.1 29).toInt ≤ nn + 1)) := by
  unfold f_make_42
  have b_I_29 := tI_29 hI
  have b_I_25 := tI_25 hI
  refine ok_if (fun c157 => ?_) (fun c157 => ?_)
  ·
    replace c157 := ti_eqP c157 rfl (show (0 : Int32).toInt = 0 from rfl)
    obtain ⟨r1, h_r1, p_r1⟩ := ro (t_isTaking (x1 := x1)  hI hA r_x1)
    refine ok_clR h_r1 ?_
    dsimp only at p_r1
    refine ok_if (fun c158 => ?_) (fun c158 => ?_)
    ·
      replace c158 := ti_eqP c158 rfl (show (0 : Int32).toInt = 0 from rfl)
      refine ok_bnd (fun v2 e159 => ?_)
      exact t_make_68 (nn := nn)   (x2 := x2) (x3 := x3) (x4 := x4) (x5 := x5) (x6 := t0) (t0 := v2) hI hA r_x2 r_x3 r_x4 r_t0 q0
    ·
      replace c158 := ti_eqN c158 rfl (show (0 : Int32).toInt = 0 from rfl)
      unfold f_make_58
      exact t_make_68 (nn := nn)   (x2 := x2) (x3 := x3) (x4 := x4) (x5 := x5) (x6 := t0) (t0 := (0 : Int32)) hI hA r_x2 r_x3 r_x4 r_t0 q0
  ·
    replace c157 := ti_eqN c157 rfl (show (0 : Int32).toInt = 0 from rfl)
    unfold f_make_58
    exact t_make_68 (nn := nn)   (x2 := x2) (x3 := x3) (x4 := x4) (x5 := x5) (x6 := t0) (t0 := (0 : Int32)) hI hA r_x2 r_x3 r_x4 r_t0 q0
theorem t_make_0 {nn : Int} {I : Nat → Int32} {A : Nat → Nat → Int32} {x1 : Int32} (hI : TJ I) (hA : TK A) (r_x1 : (0 : Int) ≤ x1.toInt ∧ x1.toInt ≤ (24575 : Int)) (q0 : (I 29).toInt ≤ nn ∧ nn ≤ 1999) : Ok (f_make_0 x1 I A) (fun o => TJ o.2.1 ∧ TK o.2.2 ∧ ((o.2.1 29).toInt ≤ nn + 1)) := by
  unfold f_make_0
  have b_I_29 := tI_29 hI
  have b_I_25 := tI_25 hI
  refine ok_bnd (fun v1 e160 => ?_)
  have t_v1 : v1.toInt = x1.toInt % 64 := ti_rem e160 rfl (show (64 : Int32).toInt = 64 from rfl) (by omega) (by decide)
  refine ok_bnd (fun v2 e161 => ?_)
  have t_v2 : v2.toInt = x1.toInt / 64 := ti_div e161 rfl (show (64 : Int32).toInt = 64 from rfl) (by omega) (by decide)
  refine ok_bnd (fun v3 e162 => ?_)
  have t_v3 : v3.toInt = v2.toInt % 64 := ti_rem e162 rfl (show (64 : Int32).toInt = 64 from rfl) (by omega) (by decide)
  refine ok_bnd (fun v4 e163 => ?_)
  have t_v4 : v4.toInt = x1.toInt / 4096 := ti_div e163 rfl (show (4096 : Int32).toInt = 4096 from rfl) (by omega) (by decide)
  refine ok_chk (ti_in (by omega) (by omega)) ?_
  refine ok_bnd (fun v5 e164 => ?_)
  obtain ⟨r6, h_r6, p_r6⟩ := ro (t_kind (x0 := v5)  hI hA )
  refine ok_clR h_r6 ?_
  dsimp only at p_r6
  refine ok_if (fun c165 => ?_) (fun c165 => ?_)
  ·
    replace c165 := ti_eqP c165 rfl (show (1 : Int32).toInt = 1 from rfl)
    exact t_make_42 (nn := nn)   (x1 := x1) (x2 := v1) (x3 := v3) (x4 := v4) (x5 := v5) (t0 := (1 : Int32)) hI hA r_x1 (by omega) (by omega) (by omega) (by decide) q0
  ·
    replace c165 := ti_eqN c165 rfl (show (1 : Int32).toInt = 1 from rfl)
    exact t_make_42 (nn := nn)   (x1 := x1) (x2 := v1) (x3 := v3) (x4 := v4) (x5 := v5) (t0 := (0 : Int32)) hI hA r_x1 (by omega) (by omega) (by omega) (by decide) q0
theorem t_make {nn : Int} {I : Nat → Int32} {A : Nat → Nat → Int32} {x1 : Int32} (hI : TJ I) (hA : TK A) (r_x1 : (0 : Int) ≤ x1.toInt ∧ x1.toInt ≤ (24575 : Int)) (q0 : (I 29).toInt ≤ nn ∧ nn ≤ 1999) : Ok (f_make x1 I A) (fun o => TJ o.2.1 ∧ TK o.2.2 ∧ ((o.2.1 29).toInt ≤ nn + 1)) := t_make_0 (nn := nn) hI hA r_x1 q0
theorem t_isClear_5s  {I : Nat → Int32} {A : Nat → Nat → Int32} {self5 : Int32 → Int32 → Int32 → (Nat → Int32) → (Nat → Nat → Int32) → Option (Int32 × MS)} {N5 : Nat} (hself5 : ∀ (x2 : Int32) (x3 : Int32) (x4 : Int32),  ((0 : Int) ≤ x2.toInt ∧ x2.toInt ≤ (63 : Int)) → ((0 : Int) ≤ x3.toInt ∧ x3.toInt ≤ (1 : Int)) → ((0 : Int) ≤ x4.toInt ∧ x4.toInt ≤ (64 : Int)) → (65 - x4.toInt) < (N5 : Int) → Ok (self5 x2 x3 x4 I A) (fun o => o.2 = (I, A) ∧ ((0 : Int) ≤ o.1.toInt ∧ o.1.toInt ≤ (1 : Int)))) {x2 : Int32} {x3 : Int32} {x4 : Int32} (hI : TJ I) (hA : TK A) (r_x2 : (0 : Int) ≤ x2.toInt ∧ x2.toInt ≤ (63 : Int)) (r_x3 : (0 : Int) ≤ x3.toInt ∧ x3.toInt ≤ (1 : Int)) (r_x4 : (0 : Int) ≤ x4.toInt ∧ x4.toInt ≤ (64 : Int)) (m5 : (65 - x4.toInt) ≤ (N5 : Int)) : Ok (f_isClear_5s self5 x2 x3 x4 I A) (fun o => o.2 = (I, A) ∧ ((0 : Int) ≤ o.1.toInt ∧ o.1.toInt ≤ (1 : Int))) := by
  unfold f_isClear_5s
  refine ok_if (fun c166 => ?_) (fun c166 => ?_)
  ·
    replace c166 := ti_ltP c166 rfl rfl
    refine ok_chk (nar_b (by omega) (by omega)) ?_
    exact ok_ret ⟨rfl, (show (0 : Int) ≤ x3.toInt ∧ x3.toInt ≤ (1 : Int) from (by omega))⟩
  ·
    replace c166 := ti_ltN c166 rfl rfl
    refine ok_if (fun c167 => ?_) (fun c167 => ?_)
    ·
      replace c167 := ti_eqP c167 rfl (show (0 : Int32).toInt = 0 from rfl)
      unfold f_isClear_29
      unfold f_isClear_30
      refine ok_bnd (fun v1 e168 => ?_)
      have t_v1 : v1.toInt = x4.toInt + 1 := ti_add e168 rfl (show (1 : Int32).toInt = 1 from rfl) (by omega) (by omega)
      exact hself5 x2 (0 : Int32) v1 r_x2 (by decide) (by omega) (by omega)
    ·
      replace c167 := ti_eqN c167 rfl (show (0 : Int32).toInt = 0 from rfl)
      refine ok_chk (ti_in (by omega) (by omega)) ?_
      refine ok_bnd (fun v1 e169 => ?_)
      refine ok_if (fun c170 => ?_) (fun c170 => ?_)
      ·
        replace c170 := ti_eqP c170 rfl (show (0 : Int32).toInt = 0 from rfl)
        unfold f_isClear_30
        refine ok_bnd (fun v1 e171 => ?_)
        have t_v1 : v1.toInt = x4.toInt + 1 := ti_add e171 rfl (show (1 : Int32).toInt = 1 from rfl) (by omega) (by omega)
        exact hself5 x2 (1 : Int32) v1 r_x2 (by decide) (by omega) (by omega)
      ·
        replace c170 := ti_eqN c170 rfl (show (0 : Int32).toInt = 0 from rfl)
        unfold f_isClear_29
        unfold f_isClear_30
        refine ok_bnd (fun v1 e172 => ?_)
        have t_v1 : v1.toInt = x4.toInt + 1 := ti_add e172 rfl (show (1 : Int32).toInt = 1 from rfl) (by omega) (by omega)
        exact hself5 x2 (0 : Int32) v1 r_x2 (by decide) (by omega) (by omega)
theorem t_isClear_5  {I : Nat → Int32} {A : Nat → Nat → Int32} (hI : TJ I) (hA : TK A) : ∀ (n : Nat) (x2 : Int32) (x3 : Int32) (x4 : Int32),  ((0 : Int) ≤ x2.toInt ∧ x2.toInt ≤ (63 : Int)) → ((0 : Int) ≤ x3.toInt ∧ x3.toInt ≤ (1 : Int)) → ((0 : Int) ≤ x4.toInt ∧ x4.toInt ≤ (64 : Int)) → (65 - x4.toInt) < (n : Int) → Ok (f_isClear_5  n x2 x3 x4 I A) (fun o => o.2 = (I, A) ∧ ((0 : Int) ≤ o.1.toInt ∧ o.1.toInt ≤ (1 : Int))) := by
  intro n
  induction n with
  | zero => intro x2 x3 x4 g0 g1 g2  hm; exfalso; omega
  | succ n ih =>
    intro x2 x3 x4 g0 g1 g2  hm
    exact t_isClear_5s   (N5 := n)  ih hI hA g0 g1 g2  (by omega)
theorem t_isClear_0  {I : Nat → Int32} {A : Nat → Nat → Int32} {x1 : Int32} {x2 : Int32} (hI : TJ I) (hA : TK A) (r_x1 : (0 : Int) ≤ x1.toInt ∧ x1.toInt ≤ (63 : Int)) (r_x2 : (0 : Int) ≤ x2.toInt ∧ x2.toInt ≤ (63 : Int)) : Ok (f_isClear_0 x1 x2 I A) (fun o => o.2 = (I, A) ∧ ((0 : Int) ≤ o.1.toInt ∧ o.1.toInt ≤ (1 : Int))) := by
  unfold f_isClear_0
  exact t_isClear_5    hI hA mFuel x2 (1 : Int32) x1  r_x2 (by decide) (by omega) (by show _ < ((200000 : Nat) : Int); have z0 : (1 : Int32).toInt = 1 := rfl; omega)
theorem t_isClear  {I : Nat → Int32} {A : Nat → Nat → Int32} {x1 : Int32} {x2 : Int32} (hI : TJ I) (hA : TK A) (r_x1 : (0 : Int) ≤ x1.toInt ∧ x1.toInt ≤ (63 : Int)) (r_x2 : (0 : Int) ≤ x2.toInt ∧ x2.toInt ≤ (63 : Int)) : Ok (f_isClear x1 x2 I A) (fun o => o.2 = (I, A) ∧ ((0 : Int) ≤ o.1.toInt ∧ o.1.toInt ≤ (1 : Int))) := t_isClear_0  hI hA r_x1 r_x2
theorem t_mayCastle_82  {I : Nat → Int32} {A : Nat → Nat → Int32} {x1 : Int32} {x2 : Int32} {x4 : Int32} {t0 : Int32} (hI : TJ I) (hA : TK A) (r_x1 : (0 : Int) ≤ x1.toInt ∧ x1.toInt ≤ (63 : Int)) (r_x2 : (4 : Int) ≤ x2.toInt ∧ x2.toInt ≤ (60 : Int)) (r_x4 : (0 : Int) ≤ x4.toInt ∧ x4.toInt ≤ (1 : Int)) (r_t0 : (0 : Int) ≤ t0.toInt ∧ t0.toInt ≤ (1 : Int)) : Ok (f_mayCastle_82 x1 x2 x4 t0 I A) (fun o => o.2 = (I, A) ∧ ((0 : Int) ≤ o.1.toInt ∧ o.1.toInt ≤ (1 : Int))) := by
  unfold f_mayCastle_82
  refine ok_if (fun c173 => ?_) (fun c173 => ?_)
  ·
    replace c173 := ti_eqP c173 rfl (show (0 : Int32).toInt = 0 from rfl)
    unfold f_mayCastle_130
    unfold f_mayCastle_131
    refine ok_chk (by decide) ?_
    exact ok_ret ⟨rfl, (show (0 : Int) ≤ (0 : Int32).toInt ∧ (0 : Int32).toInt ≤ (1 : Int) from (by decide))⟩
  ·
    replace c173 := ti_eqN c173 rfl (show (0 : Int32).toInt = 0 from rfl)
    refine ok_if (fun c174 => ?_) (fun c174 => ?_)
    ·
      replace c174 := ti_eqP c174 rfl (show (0 : Int32).toInt = 0 from rfl)
      unfold f_mayCastle_130
      unfold f_mayCastle_131
      refine ok_chk (by decide) ?_
      exact ok_ret ⟨rfl, (show (0 : Int) ≤ (0 : Int32).toInt ∧ (0 : Int32).toInt ≤ (1 : Int) from (by decide))⟩
    ·
      replace c174 := ti_eqN c174 rfl (show (0 : Int32).toInt = 0 from rfl)
      refine ok_bnd (fun v1 e175 => ?_)
      have b_I_25 := tI_25 hI
      have t_v1 : v1.toInt = 1 - (I 25).toInt := ti_sub e175 (show (1 : Int32).toInt = 1 from rfl) rfl (by omega) (by omega)
      obtain ⟨r2, h_r2, p_r2⟩ := ro (t_isAttacked (x1 := x2) (x2 := v1)  hI hA (by omega) (by omega))
      refine ok_clR h_r2 ?_
      dsimp only at p_r2
      refine ok_if (fun c176 => ?_) (fun c176 => ?_)
      ·
        replace c176 := ti_eqP c176 rfl (show (0 : Int32).toInt = 0 from rfl)
        refine ok_bnd (fun v3 e177 => ?_)
        have t_v3 : v3.toInt = x2.toInt + x1.toInt := ti_add e177 rfl rfl (by omega) (by omega)
        refine ok_bnd (fun v4 e178 => ?_)
        have t_v4 : v4.toInt = v3.toInt / 2 := ti_div e178 rfl (show (2 : Int32).toInt = 2 from rfl) (by omega) (by decide)
        refine ok_bnd (fun v5 e179 => ?_)
        have t_v5 : v5.toInt = 1 - (I 25).toInt := ti_sub e179 (show (1 : Int32).toInt = 1 from rfl) rfl (by omega) (by omega)
        obtain ⟨r6, h_r6, p_r6⟩ := ro (t_isAttacked (x1 := v4) (x2 := v5)  hI hA (by omega) (by omega))
        refine ok_clR h_r6 ?_
        dsimp only at p_r6
        refine ok_if (fun c180 => ?_) (fun c180 => ?_)
        ·
          replace c180 := ti_eqP c180 rfl (show (0 : Int32).toInt = 0 from rfl)
          unfold f_mayCastle_131
          refine ok_chk (by decide) ?_
          exact ok_ret ⟨rfl, (show (0 : Int) ≤ (1 : Int32).toInt ∧ (1 : Int32).toInt ≤ (1 : Int) from (by decide))⟩
        ·
          replace c180 := ti_eqN c180 rfl (show (0 : Int32).toInt = 0 from rfl)
          unfold f_mayCastle_130
          unfold f_mayCastle_131
          refine ok_chk (by decide) ?_
          exact ok_ret ⟨rfl, (show (0 : Int) ≤ (0 : Int32).toInt ∧ (0 : Int32).toInt ≤ (1 : Int) from (by decide))⟩
      ·
        replace c176 := ti_eqN c176 rfl (show (0 : Int32).toInt = 0 from rfl)
        unfold f_mayCastle_130
        unfold f_mayCastle_131
        refine ok_chk (by decide) ?_
        exact ok_ret ⟨rfl, (show (0 : Int) ≤ (0 : Int32).toInt ∧ (0 : Int32).toInt ≤ (1 : Int) from (by decide))⟩
theorem t_mayCastle_53  {I : Nat → Int32} {A : Nat → Nat → Int32} {x1 : Int32} {x2 : Int32} {x3 : Int32} {t0 : Int32} (hI : TJ I) (hA : TK A) (r_x1 : (0 : Int) ≤ x1.toInt ∧ x1.toInt ≤ (63 : Int)) (r_x2 : (4 : Int) ≤ x2.toInt ∧ x2.toInt ≤ (60 : Int)) (r_x3 : (0 : Int) ≤ x3.toInt ∧ x3.toInt ≤ (1 : Int)) (r_t0 : (0 : Int) ≤ t0.toInt ∧ t0.toInt ≤ (1 : Int)) : Ok (f_mayCastle_53 x1 x2 x3 t0 I A) (fun o => o.2 = (I, A) ∧ ((0 : Int) ≤ o.1.toInt ∧ o.1.toInt ≤ (1 : Int))) := by
  unfold f_mayCastle_53
  refine ok_if (fun c181 => ?_) (fun c181 => ?_)
  ·
    replace c181 := ti_eqP c181 rfl (show (0 : Int32).toInt = 0 from rfl)
    refine ok_bnd (fun v1 e182 => ?_)
    have t_v1 : v1.toInt = x2.toInt - 3 := ti_sub e182 rfl (show (3 : Int32).toInt = 3 from rfl) (by omega) (by omega)
    refine ok_bnd (fun v2 e183 => ?_)
    have t_v2 : v2.toInt = x2.toInt - 1 := ti_sub e183 rfl (show (1 : Int32).toInt = 1 from rfl) (by omega) (by omega)
    obtain ⟨r3, h_r3, p_r3⟩ := ro (t_isClear (x1 := v1) (x2 := v2)  hI hA (by omega) (by omega))
    refine ok_clR h_r3 ?_
    dsimp only at p_r3
    exact t_mayCastle_82    (x1 := x1) (x2 := x2) (x4 := t0) (t0 := r3) hI hA r_x1 r_x2 r_t0 (by omega)
  ·
    replace c181 := ti_eqN c181 rfl (show (0 : Int32).toInt = 0 from rfl)
    refine ok_bnd (fun v4 e184 => ?_)
    have t_v4 : v4.toInt = x2.toInt + 1 := ti_add e184 rfl (show (1 : Int32).toInt = 1 from rfl) (by omega) (by omega)
    refine ok_bnd (fun v5 e185 => ?_)
    have t_v5 : v5.toInt = x2.toInt + 2 := ti_add e185 rfl (show (2 : Int32).toInt = 2 from rfl) (by omega) (by omega)
    obtain ⟨r6, h_r6, p_r6⟩ := ro (t_isClear (x1 := v4) (x2 := v5)  hI hA (by omega) (by omega))
    refine ok_clR h_r6 ?_
    dsimp only at p_r6
    exact t_mayCastle_82    (x1 := x1) (x2 := x2) (x4 := t0) (t0 := r6) hI hA r_x1 r_x2 r_t0 (by omega)
theorem t_mayCastle_40  {I : Nat → Int32} {A : Nat → Nat → Int32} {x1 : Int32} {x2 : Int32} {x3 : Int32} {t0 : Int32} {t1 : Int32} {t2 : Int32} (hI : TJ I) (hA : TK A) (r_x1 : (0 : Int) ≤ x1.toInt ∧ x1.toInt ≤ (63 : Int)) (r_x2 : (4 : Int) ≤ x2.toInt ∧ x2.toInt ≤ (60 : Int)) (r_x3 : (0 : Int) ≤ x3.toInt ∧ x3.toInt ≤ (1 : Int)) (r_t0 : (0 : Int) ≤ t0.toInt ∧ t0.toInt ≤ (1 : Int)) (r_t1 : (0 : Int) ≤ t1.toInt ∧ t1.toInt ≤ (2 : Int)) : Ok (f_mayCastle_40 x1 x2 x3 t0 t1 t2 I A) (fun o => o.2 = (I, A) ∧ ((0 : Int) ≤ o.1.toInt ∧ o.1.toInt ≤ (1 : Int))) := by
  unfold f_mayCastle_40
  refine ok_bnd (fun v1 e186 => ?_)
  have t_v1 : v1.toInt = t1.toInt + t0.toInt := ti_add e186 rfl rfl (by omega) (by omega)
  refine ok_bnd (fun v2 e187 => ?_)
  refine ok_bnd (fun v3 e188 => ?_)
  have t_v3 := ti_and e188 (show (1 : Int32).toBitVec.toNat = 1 from rfl) (by decide)
  refine ok_if (fun c189 => ?_) (fun c189 => ?_)
  ·
    replace c189 := ti_eqP c189 rfl (show (1 : Int32).toInt = 1 from rfl)
    exact t_mayCastle_53    (x1 := x1) (x2 := x2) (x3 := x3) (t0 := (1 : Int32)) hI hA r_x1 r_x2 r_x3 (by decide)
  ·
    replace c189 := ti_eqN c189 rfl (show (1 : Int32).toInt = 1 from rfl)
    exact t_mayCastle_53    (x1 := x1) (x2 := x2) (x3 := x3) (t0 := (0 : Int32)) hI hA r_x1 r_x2 r_x3 (by decide)
theorem t_mayCastle_20  {I : Nat → Int32} {A : Nat → Nat → Int32} {x1 : Int32} {x2 : Int32} {t0 : Int32} (hI : TJ I) (hA : TK A) (r_x1 : (0 : Int) ≤ x1.toInt ∧ x1.toInt ≤ (63 : Int)) (r_x2 : (4 : Int) ≤ x2.toInt ∧ x2.toInt ≤ (60 : Int)) (r_t0 : (0 : Int) ≤ t0.toInt ∧ t0.toInt ≤ (1 : Int)) : Ok (f_mayCastle_20 x1 x2 t0 I A) (fun o => o.2 = (I, A) ∧ ((0 : Int) ≤ o.1.toInt ∧ o.1.toInt ≤ (1 : Int))) := by
  unfold f_mayCastle_20
  refine ok_bnd (fun v1 e190 => ?_)
  have b_I_25 := tI_25 hI
  have t_v1 : v1.toInt = 2 * (I 25).toInt := ti_mul e190 (show (2 : Int32).toInt = 2 from rfl) rfl (by omega) (by omega)
  refine ok_if (fun c191 => ?_) (fun c191 => ?_)
  ·
    replace c191 := ti_eqP c191 rfl (show (0 : Int32).toInt = 0 from rfl)
    exact t_mayCastle_40    (x1 := x1) (x2 := x2) (x3 := t0) (t0 := (1 : Int32)) (t1 := v1) (t2 := (I 26)) hI hA r_x1 r_x2 r_t0 (by decide) (by omega)
  ·
    replace c191 := ti_eqN c191 rfl (show (0 : Int32).toInt = 0 from rfl)
    exact t_mayCastle_40    (x1 := x1) (x2 := x2) (x3 := t0) (t0 := (0 : Int32)) (t1 := v1) (t2 := (I 26)) hI hA r_x1 r_x2 r_t0 (by decide) (by omega)
theorem t_mayCastle_0  {I : Nat → Int32} {A : Nat → Nat → Int32} {x1 : Int32} (hI : TJ I) (hA : TK A) (r_x1 : (0 : Int) ≤ x1.toInt ∧ x1.toInt ≤ (63 : Int)) : Ok (f_mayCastle_0 x1 I A) (fun o => o.2 = (I, A) ∧ ((0 : Int) ≤ o.1.toInt ∧ o.1.toInt ≤ (1 : Int))) := by
  unfold f_mayCastle_0
  refine ok_bnd (fun v1 e192 => ?_)
  have b_I_25 := tI_25 hI
  have t_v1 : v1.toInt = 56 * (I 25).toInt := ti_mul e192 (show (56 : Int32).toInt = 56 from rfl) rfl (by omega) (by omega)
  refine ok_bnd (fun v2 e193 => ?_)
  have t_v2 : v2.toInt = 4 + v1.toInt := ti_add e193 (show (4 : Int32).toInt = 4 from rfl) rfl (by omega) (by omega)
  refine ok_if (fun c194 => ?_) (fun c194 => ?_)
  ·
    replace c194 := ti_leP c194 rfl rfl
    exact t_mayCastle_20    (x1 := x1) (x2 := v2) (t0 := (0 : Int32)) hI hA r_x1 (by omega) (by decide)
  ·
    replace c194 := ti_leN c194 rfl rfl
    exact t_mayCastle_20    (x1 := x1) (x2 := v2) (t0 := (1 : Int32)) hI hA r_x1 (by omega) (by decide)
theorem t_mayCastle  {I : Nat → Int32} {A : Nat → Nat → Int32} {x1 : Int32} (hI : TJ I) (hA : TK A) (r_x1 : (0 : Int) ≤ x1.toInt ∧ x1.toInt ≤ (63 : Int)) : Ok (f_mayCastle x1 I A) (fun o => o.2 = (I, A) ∧ ((0 : Int) ≤ o.1.toInt ∧ o.1.toInt ≤ (1 : Int))) := t_mayCastle_0  hI hA r_x1
end
section
noncomputable def pPG (a b : Int) : Prop := ((b = a + 8) ∨ (b = a - 8) ∨ (b = a + 16 ∧ a / 8 = 1) ∨ (b = a - 16 ∧ a / 8 = 6) ∨ ((b / 8 = a / 8 + 1 ∨ b / 8 = a / 8 - 1) ∧ (b % 8 - a % 8 = 1 ∨ b % 8 - a % 8 = -1)))
noncomputable def pGE (a b : Int) : Prop := ((b % 8 - a % 8 = 0 ∨ b / 8 - a / 8 = 0 ∨ b % 8 - a % 8 = b / 8 - a / 8 ∨ b % 8 - a % 8 = a / 8 - b / 8) ∨ ((b % 8 - a % 8 = 1 ∨ b % 8 - a % 8 = -1) ∧ (b / 8 - a / 8 = 2 ∨ b / 8 - a / 8 = -2)) ∨ ((b % 8 - a % 8 = 2 ∨ b % 8 - a % 8 = -2) ∧ (b / 8 - a / 8 = 1 ∨ b / 8 - a / 8 = -1)))
noncomputable def gD (a b f r y1 y2 kk : Int) : Prop := f = b % 8 - a % 8 ∧ r = b / 8 - a / 8 ∧ a ≠ b ∧ y1 = a ∧ y2 = b ∧ kk ≠ 1
noncomputable def gA (f r : Int) : Prop := f = 0 ∨ r = 0 ∨ f = r ∨ f = -r
noncomputable def gS (t d : Int) : Prop := (0 < d → t = 1) ∧ (d < 0 → t = -1) ∧ (d = 0 → t = 0)
theorem gD_ne {a b f r y1 y2 kk : Int} (h : gD a b f r y1 y2 kk) : a ≠ b := h.2.2.1
theorem gD_k {a b f r y1 y2 kk : Int} (h : gD a b f r y1 y2 kk) : kk ≠ 1 := h.2.2.2.2.2
theorem gD_al {a b f r y1 y2 kk : Int} (h : gD a b f r y1 y2 kk) (g : gA f r) : b % 8 - a % 8 = 0 ∨ b / 8 - a / 8 = 0 ∨ b % 8 - a % 8 = b / 8 - a / 8 ∨ b % 8 - a % 8 = a / 8 - b / 8 := by
  unfold gD at h; unfold gA at g; omega
theorem gD_ge {a b f r y1 y2 kk : Int} (h : gD a b f r y1 y2 kk) (g : gA f r) : pGE y1 y2 := by
  have h1 := gD_al h g
  rw [h.2.2.2.1, h.2.2.2.2.1]
  exact Or.inl h1
theorem gD_sx {a b f r y1 y2 kk t : Int} (h : gD a b f r y1 y2 kk) (g : gS t f) : (0 < b % 8 - a % 8 → t = 1) ∧ (b % 8 - a % 8 < 0 → t = -1) ∧ (b % 8 - a % 8 = 0 → t = 0) := by
  rw [h.1] at g; exact g
theorem gD_sy {a b f r y1 y2 kk t : Int} (h : gD a b f r y1 y2 kk) (g : gS t r) : (0 < b / 8 - a / 8 → t = 1) ∧ (b / 8 - a / 8 < 0 → t = -1) ∧ (b / 8 - a / 8 = 0 → t = 0) := by
  rw [h.2.1] at g; exact g
theorem ti_div8 {t v : Int32} (e : v = t / (8 : Int32)) (h : t.toInt = 8 ∨ t.toInt = -8) : (t.toInt = 8 ∧ v.toInt = 1) ∨ (t.toInt = -8 ∧ v.toInt = -1) := by
  rcases h with h | h
  · have : t = 8 := Int32.toInt_inj.mp h
    subst this; subst e; left; decide
  · have : t = -8 := Int32.toInt_inj.mp h
    subst this; subst e; right; decide
noncomputable def onw (dx dy s t : Int) : Prop := ∃ k : Int, 0 ≤ k ∧ k ≤ 7 ∧ t % 8 = s % 8 + k * dx ∧ t / 8 = s / 8 + k * dy
theorem onw_step {dx dy s t r : Int} (h1 : -1 ≤ dx ∧ dx ≤ 1) (h2 : -1 ≤ dy ∧ dy ≤ 1) (h3 : 0 ≤ s ∧ s ≤ 63) (h4 : 0 ≤ t ∧ t ≤ 63) (ho : onw dx dy s t) (hne : s ≠ t) (h : (0 ≤ s % 8 + dx ∧ s % 8 + dx < 8 ∧ 0 ≤ s / 8 + dy ∧ s / 8 + dy < 8 ∧ r = 8 * (s / 8 + dy) + (s % 8 + dx)) ∨ (r = -1 ∧ (s % 8 + dx < 0 ∨ 8 ≤ s % 8 + dx ∨ s / 8 + dy < 0 ∨ 8 ≤ s / 8 + dy))) : (0 ≤ r ∧ r ≤ 63) ∧ onw dx dy r t := by
  obtain ⟨k, k1, k2, k3, k4⟩ := ho
  have hx : dx = -1 ∨ dx = 0 ∨ dx = 1 := by omega
  have hy : dy = -1 ∨ dy = 0 ∨ dy = 1 := by omega
  have key : 1 ≤ k ∧ 0 ≤ s % 8 + dx ∧ s % 8 + dx < 8 ∧ 0 ≤ s / 8 + dy ∧ s / 8 + dy < 8 := by
    rcases hx with e | e | e <;> rcases hy with e' | e' | e' <;> subst e <;> subst e' <;> omega
  have hr : r = 8 * (s / 8 + dy) + (s % 8 + dx) := by omega
  refine ⟨by omega, k - 1, by omega, by omega, ?_, ?_⟩
  · have e1 : r % 8 = s % 8 + dx := by omega
    rw [e1]
    rcases hx with e | e | e <;> subst e <;> omega
  · have e2 : r / 8 = s / 8 + dy := by omega
    rw [e2]
    rcases hy with e | e | e <;> subst e <;> omega
theorem onw_start {a b dx dy r : Int} (h3 : 0 ≤ a ∧ a ≤ 63) (h4 : 0 ≤ b ∧ b ≤ 63) (h1 : -1 ≤ dx ∧ dx ≤ 1) (h2 : -1 ≤ dy ∧ dy ≤ 1) (hne : a ≠ b) (al : b % 8 - a % 8 = 0 ∨ b / 8 - a / 8 = 0 ∨ b % 8 - a % 8 = b / 8 - a / 8 ∨ b % 8 - a % 8 = a / 8 - b / 8) (sx : (0 < b % 8 - a % 8 → dx = 1) ∧ (b % 8 - a % 8 < 0 → dx = -1) ∧ (b % 8 - a % 8 = 0 → dx = 0)) (sy : (0 < b / 8 - a / 8 → dy = 1) ∧ (b / 8 - a / 8 < 0 → dy = -1) ∧ (b / 8 - a / 8 = 0 → dy = 0))
    (h : (0 ≤ a % 8 + dx ∧ a % 8 + dx < 8 ∧ 0 ≤ a / 8 + dy ∧ a / 8 + dy < 8 ∧ r = 8 * (a / 8 + dy) + (a % 8 + dx)) ∨ (r = -1 ∧ (a % 8 + dx < 0 ∨ 8 ≤ a % 8 + dx ∨ a / 8 + dy < 0 ∨ 8 ≤ a / 8 + dy))) : (dx ≠ 0 ∨ dy ≠ 0) ∧ (0 ≤ r ∧ r ≤ 63) ∧ onw dx dy r b := by
  have hx : dx = -1 ∨ dx = 0 ∨ dx = 1 := by omega
  have hy : dy = -1 ∨ dy = 0 ∨ dy = 1 := by omega
  refine ⟨by omega, ?_⟩
  have h0 : onw dx dy a b := by
    rcases hx with e | e | e <;> rcases hy with e' | e' | e' <;> subst e <;> subst e'
    · exact ⟨a % 8 - b % 8, by omega, by omega, by omega, by omega⟩
    · exact ⟨a % 8 - b % 8, by omega, by omega, by omega, by omega⟩
    · exact ⟨a % 8 - b % 8, by omega, by omega, by omega, by omega⟩
    · exact ⟨a / 8 - b / 8, by omega, by omega, by omega, by omega⟩
    · exfalso; omega
    · exact ⟨b / 8 - a / 8, by omega, by omega, by omega, by omega⟩
    · exact ⟨b % 8 - a % 8, by omega, by omega, by omega, by omega⟩
    · exact ⟨b % 8 - a % 8, by omega, by omega, by omega, by omega⟩
    · exact ⟨b % 8 - a % 8, by omega, by omega, by omega, by omega⟩
  exact onw_step h1 h2 h3 h4 h0 hne h
theorem pPG_GE {a b : Int} (h1 : 0 ≤ a ∧ a ≤ 63) (h2 : 0 ≤ b ∧ b ≤ 63) (h : pPG a b) : pGE a b := by
  unfold pPG at h; unfold pGE; omega
theorem t_pawnGoes_63  {I : Nat → Int32} {A : Nat → Nat → Int32} {x1 : Int32} {x2 : Int32} {x3 : Int32} {t0 : Int32} {t1 : Int32} (hI : TJ I) (hA : TK A) (r_x1 : (0 : Int) ≤ x1.toInt ∧ x1.toInt ≤ (63 : Int)) (r_x2 : (0 : Int) ≤ x2.toInt ∧ x2.toInt ≤ (63 : Int)) (r_x3 : (-8 : Int) ≤ x3.toInt ∧ x3.toInt ≤ (8 : Int)) (r_t0 : (1 : Int) ≤ t0.toInt ∧ t0.toInt ≤ (6 : Int)) (q0 : x2.toInt = x1.toInt + 2 * x3.toInt ∧ t1.toInt = x1.toInt / 8 ∧ ((x3.toInt = 8 ∧ t0.toInt = 1) ∨ (x3.toInt = -8 ∧ t0.toInt = 6))) : Ok (f_pawnGoes_63 x1 x2 x3 t0 t1 I A) (fun o => o.2 = (I, A) ∧ ((0 : Int) ≤ o.1.toInt ∧ o.1.toInt ≤ (1 : Int)) ∧ ((o.1.toInt = 1 → pPG x1.toInt x2.toInt))) := by
  unfold f_pawnGoes_63
  refine ok_if (fun c1 => ?_) (fun c1 => ?_)
  ·
    replace c1 := ti_eqP c1 rfl rfl
    refine ok_bnd (fun v1 e2 => ?_)
    have t_v1 : v1.toInt = x1.toInt + x3.toInt := ti_add e2 rfl rfl (by omega) (by omega)
    refine ok_chk (ti_in (by omega) (by omega)) ?_
    refine ok_bnd (fun v2 e3 => ?_)
    refine ok_if (fun c4 => ?_) (fun c4 => ?_)
    ·
      replace c4 := ti_eqP c4 rfl (show (0 : Int32).toInt = 0 from rfl)
      refine ok_chk (ti_in (by omega) (by omega)) ?_
      refine ok_bnd (fun v3 e5 => ?_)
      refine ok_if (fun c6 => ?_) (fun c6 => ?_)
      ·
        replace c6 := ti_eqP c6 rfl (show (0 : Int32).toInt = 0 from rfl)
        unfold f_pawnGoes_91
        refine ok_chk (by decide) ?_
        exact ok_ret ⟨rfl, (show (0 : Int) ≤ (1 : Int32).toInt ∧ (1 : Int32).toInt ≤ (1 : Int) from (by decide)), (by show ((1 : Int32).toInt = 1 → pPG x1.toInt x2.toInt); intro h; unfold pPG; omega)⟩
      ·
        replace c6 := ti_eqN c6 rfl (show (0 : Int32).toInt = 0 from rfl)
        unfold f_pawnGoes_90
        unfold f_pawnGoes_91
        refine ok_chk (by decide) ?_
        exact ok_ret ⟨rfl, (show (0 : Int) ≤ (0 : Int32).toInt ∧ (0 : Int32).toInt ≤ (1 : Int) from (by decide)), (by show ((0 : Int32).toInt = 1 → pPG x1.toInt x2.toInt); exact fun h => absurd h (by decide))⟩
    ·
      replace c4 := ti_eqN c4 rfl (show (0 : Int32).toInt = 0 from rfl)
      unfold f_pawnGoes_90
      unfold f_pawnGoes_91
      refine ok_chk (by decide) ?_
      exact ok_ret ⟨rfl, (show (0 : Int) ≤ (0 : Int32).toInt ∧ (0 : Int32).toInt ≤ (1 : Int) from (by decide)), (by show ((0 : Int32).toInt = 1 → pPG x1.toInt x2.toInt); exact fun h => absurd h (by decide))⟩
  ·
    replace c1 := ti_eqN c1 rfl rfl
    unfold f_pawnGoes_90
    unfold f_pawnGoes_91
    refine ok_chk (by decide) ?_
    exact ok_ret ⟨rfl, (show (0 : Int) ≤ (0 : Int32).toInt ∧ (0 : Int32).toInt ≤ (1 : Int) from (by decide)), (by show ((0 : Int32).toInt = 1 → pPG x1.toInt x2.toInt); exact fun h => absurd h (by decide))⟩
theorem t_pawnGoes_14  {I : Nat → Int32} {A : Nat → Nat → Int32} {x1 : Int32} {x2 : Int32} {t0 : Int32} (hI : TJ I) (hA : TK A) (r_x1 : (0 : Int) ≤ x1.toInt ∧ x1.toInt ≤ (63 : Int)) (r_x2 : (0 : Int) ≤ x2.toInt ∧ x2.toInt ≤ (63 : Int)) (r_t0 : (-8 : Int) ≤ t0.toInt ∧ t0.toInt ≤ (8 : Int)) (q0 : (t0.toInt = 8 ∧ (I 25).toInt = 0) ∨ (t0.toInt = -8 ∧ (I 25).toInt ≠ 0)) : Ok (f_pawnGoes_14 x1 x2 t0 I A) (fun o => o.2 = (I, A) ∧ ((0 : Int) ≤ o.1.toInt ∧ o.1.toInt ≤ (1 : Int)) ∧ ((o.1.toInt = 1 → pPG x1.toInt x2.toInt))) := by
  unfold f_pawnGoes_14
  refine ok_bnd (fun v1 e7 => ?_)
  have t_v1 : v1.toInt = x1.toInt + t0.toInt := ti_add e7 rfl rfl (by omega) (by omega)
  refine ok_if (fun c8 => ?_) (fun c8 => ?_)
  ·
    replace c8 := ti_eqP c8 rfl rfl
    refine ok_chk (ti_in (by omega) (by omega)) ?_
    refine ok_bnd (fun v12 e9 => ?_)
    refine ok_if (fun c10 => ?_) (fun c10 => ?_)
    ·
      replace c10 := ti_eqP c10 rfl (show (0 : Int32).toInt = 0 from rfl)
      unfold f_pawnGoes_36
      refine ok_chk (by decide) ?_
      exact ok_ret ⟨rfl, (show (0 : Int) ≤ (1 : Int32).toInt ∧ (1 : Int32).toInt ≤ (1 : Int) from (by decide)), (by show ((1 : Int32).toInt = 1 → pPG x1.toInt x2.toInt); intro h; unfold pPG; omega)⟩
    ·
      replace c10 := ti_eqN c10 rfl (show (0 : Int32).toInt = 0 from rfl)
      unfold f_pawnGoes_36
      refine ok_chk (by decide) ?_
      exact ok_ret ⟨rfl, (show (0 : Int) ≤ (0 : Int32).toInt ∧ (0 : Int32).toInt ≤ (1 : Int) from (by decide)), (by show ((0 : Int32).toInt = 1 → pPG x1.toInt x2.toInt); exact fun h => absurd h (by decide))⟩
  ·
    replace c8 := ti_eqN c8 rfl rfl
    refine ok_bnd (fun v2 e11 => ?_)
    have t_v2 : v2.toInt = 2 * t0.toInt := ti_mul e11 (show (2 : Int32).toInt = 2 from rfl) rfl (by omega) (by omega)
    refine ok_bnd (fun v3 e12 => ?_)
    have t_v3 : v3.toInt = x1.toInt + v2.toInt := ti_add e12 rfl rfl (by omega) (by omega)
    refine ok_if (fun c13 => ?_) (fun c13 => ?_)
    ·
      replace c13 := ti_eqP c13 rfl rfl
      refine ok_bnd (fun v11 e14 => ?_)
      have t_v11 : v11.toInt = x1.toInt / 8 := ti_div e14 rfl (show (8 : Int32).toInt = 8 from rfl) (by omega) (by decide)
      have b_I_25 := tI_25 hI
      refine ok_if (fun c15 => ?_) (fun c15 => ?_)
      ·
        replace c15 := ti_eqP c15 rfl (show (0 : Int32).toInt = 0 from rfl)
        exact t_pawnGoes_63    (x1 := x1) (x2 := x2) (x3 := t0) (t0 := (1 : Int32)) (t1 := v11) hI hA r_x1 r_x2 r_t0 (by decide) (by have z0 : (1 : Int32).toInt = 1 := rfl; omega)
      ·
        replace c15 := ti_eqN c15 rfl (show (0 : Int32).toInt = 0 from rfl)
        exact t_pawnGoes_63    (x1 := x1) (x2 := x2) (x3 := t0) (t0 := (6 : Int32)) (t1 := v11) hI hA r_x1 r_x2 r_t0 (by decide) (by have z0 : (6 : Int32).toInt = 6 := rfl; omega)
    ·
      replace c13 := ti_eqN c13 rfl rfl
      refine ok_bnd (fun v4 e16 => ?_)
      have t_v4 : v4.toInt = x2.toInt % 8 := ti_rem e16 rfl (show (8 : Int32).toInt = 8 from rfl) (by omega) (by decide)
      refine ok_bnd (fun v5 e17 => ?_)
      have t_v5 : v5.toInt = x1.toInt % 8 := ti_rem e17 rfl (show (8 : Int32).toInt = 8 from rfl) (by omega) (by decide)
      refine ok_bnd (fun v6 e18 => ?_)
      have t_v6 : v6.toInt = v4.toInt - v5.toInt := ti_sub e18 rfl rfl (by omega) (by omega)
      refine ok_bnd (fun v7 e19 => ?_)
      have t_v7 : v7.toInt = x2.toInt / 8 := ti_div e19 rfl (show (8 : Int32).toInt = 8 from rfl) (by omega) (by decide)
      refine ok_bnd (fun v8 e20 => ?_)
      have t_v8 : v8.toInt = x1.toInt / 8 := ti_div e20 rfl (show (8 : Int32).toInt = 8 from rfl) (by omega) (by decide)
      refine ok_bnd (fun v9 e21 => ?_)
      have t_v9 := ti_div8 e21 (by omega)
      refine ok_bnd (fun v10 e22 => ?_)
      have t_v10 : v10.toInt = v8.toInt + v9.toInt := ti_add e22 rfl rfl (by omega) (by omega)
      refine ok_if (fun c23 => ?_) (fun c23 => ?_)
      ·
        replace c23 := ti_eqP c23 rfl rfl
        refine ok_if (fun c24 => ?_) (fun c24 => ?_)
        ·
          replace c24 := ti_eqP c24 rfl (show (1 : Int32).toInt = 1 from rfl)
          unfold f_pawnGoes_131
          refine ok_chk (ti_in (by omega) (by omega)) ?_
          refine ok_bnd (fun v1 e25 => ?_)
          obtain ⟨r2, h_r2, p_r2⟩ := ro (t_sideOf (x0 := v1)  hI hA )
          refine ok_clR h_r2 ?_
          refine ok_bnd (fun v3 e26 => ?_)
          have b_I_25 := tI_25 hI
          have t_v3 : v3.toInt = 1 - (I 25).toInt := ti_sub e26 (show (1 : Int32).toInt = 1 from rfl) rfl (by omega) (by omega)
          refine ok_if (fun c27 => ?_) (fun c27 => ?_)
          ·
            replace c27 := ti_eqP c27 rfl rfl
            unfold f_pawnGoes_157
            unfold f_pawnGoes_162
            refine ok_chk (by decide) ?_
            exact ok_ret ⟨rfl, (show (0 : Int) ≤ (1 : Int32).toInt ∧ (1 : Int32).toInt ≤ (1 : Int) from (by decide)), (by show ((1 : Int32).toInt = 1 → pPG x1.toInt x2.toInt); intro h; unfold pPG; omega)⟩
          ·
            replace c27 := ti_eqN c27 rfl rfl
            refine ok_if (fun c28 => ?_) (fun c28 => ?_)
            ·
              replace c28 := ti_eqP c28 rfl rfl
              unfold f_pawnGoes_157
              unfold f_pawnGoes_162
              refine ok_chk (by decide) ?_
              exact ok_ret ⟨rfl, (show (0 : Int) ≤ (1 : Int32).toInt ∧ (1 : Int32).toInt ≤ (1 : Int) from (by decide)), (by show ((1 : Int32).toInt = 1 → pPG x1.toInt x2.toInt); intro h; unfold pPG; omega)⟩
            ·
              replace c28 := ti_eqN c28 rfl rfl
              unfold f_pawnGoes_161
              unfold f_pawnGoes_162
              refine ok_chk (by decide) ?_
              exact ok_ret ⟨rfl, (show (0 : Int) ≤ (0 : Int32).toInt ∧ (0 : Int32).toInt ≤ (1 : Int) from (by decide)), (by show ((0 : Int32).toInt = 1 → pPG x1.toInt x2.toInt); exact fun h => absurd h (by decide))⟩
        ·
          replace c24 := ti_eqN c24 rfl (show (1 : Int32).toInt = 1 from rfl)
          refine ok_if (fun c29 => ?_) (fun c29 => ?_)
          ·
            replace c29 := ti_eqP c29 rfl (show (-1 : Int32).toInt = -1 from rfl)
            unfold f_pawnGoes_131
            refine ok_chk (ti_in (by omega) (by omega)) ?_
            refine ok_bnd (fun v1 e30 => ?_)
            obtain ⟨r2, h_r2, p_r2⟩ := ro (t_sideOf (x0 := v1)  hI hA )
            refine ok_clR h_r2 ?_
            refine ok_bnd (fun v3 e31 => ?_)
            have b_I_25 := tI_25 hI
            have t_v3 : v3.toInt = 1 - (I 25).toInt := ti_sub e31 (show (1 : Int32).toInt = 1 from rfl) rfl (by omega) (by omega)
            refine ok_if (fun c32 => ?_) (fun c32 => ?_)
            ·
              replace c32 := ti_eqP c32 rfl rfl
              unfold f_pawnGoes_157
              unfold f_pawnGoes_162
              refine ok_chk (by decide) ?_
              exact ok_ret ⟨rfl, (show (0 : Int) ≤ (1 : Int32).toInt ∧ (1 : Int32).toInt ≤ (1 : Int) from (by decide)), (by show ((1 : Int32).toInt = 1 → pPG x1.toInt x2.toInt); intro h; unfold pPG; omega)⟩
            ·
              replace c32 := ti_eqN c32 rfl rfl
              refine ok_if (fun c33 => ?_) (fun c33 => ?_)
              ·
                replace c33 := ti_eqP c33 rfl rfl
                unfold f_pawnGoes_157
                unfold f_pawnGoes_162
                refine ok_chk (by decide) ?_
                exact ok_ret ⟨rfl, (show (0 : Int) ≤ (1 : Int32).toInt ∧ (1 : Int32).toInt ≤ (1 : Int) from (by decide)), (by show ((1 : Int32).toInt = 1 → pPG x1.toInt x2.toInt); intro h; unfold pPG; omega)⟩
              ·
                replace c33 := ti_eqN c33 rfl rfl
                unfold f_pawnGoes_161
                unfold f_pawnGoes_162
                refine ok_chk (by decide) ?_
                exact ok_ret ⟨rfl, (show (0 : Int) ≤ (0 : Int32).toInt ∧ (0 : Int32).toInt ≤ (1 : Int) from (by decide)), (by show ((0 : Int32).toInt = 1 → pPG x1.toInt x2.toInt); exact fun h => absurd h (by decide))⟩
          ·
            replace c29 := ti_eqN c29 rfl (show (-1 : Int32).toInt = -1 from rfl)
            unfold f_pawnGoes_161
            unfold f_pawnGoes_162
            refine ok_chk (by decide) ?_
            exact ok_ret ⟨rfl, (show (0 : Int) ≤ (0 : Int32).toInt ∧ (0 : Int32).toInt ≤ (1 : Int) from (by decide)), (by show ((0 : Int32).toInt = 1 → pPG x1.toInt x2.toInt); exact fun h => absurd h (by decide))⟩
      ·
        replace c23 := ti_eqN c23 rfl rfl
        unfold f_pawnGoes_161
        unfold f_pawnGoes_162
        refine ok_chk (by decide) ?_
        exact ok_ret ⟨rfl, (show (0 : Int) ≤ (0 : Int32).toInt ∧ (0 : Int32).toInt ≤ (1 : Int) from (by decide)), (by show ((0 : Int32).toInt = 1 → pPG x1.toInt x2.toInt); exact fun h => absurd h (by decide))⟩
theorem t_pawnGoes_0  {I : Nat → Int32} {A : Nat → Nat → Int32} {x1 : Int32} {x2 : Int32} (hI : TJ I) (hA : TK A) (r_x1 : (0 : Int) ≤ x1.toInt ∧ x1.toInt ≤ (63 : Int)) (r_x2 : (0 : Int) ≤ x2.toInt ∧ x2.toInt ≤ (63 : Int)) : Ok (f_pawnGoes_0 x1 x2 I A) (fun o => o.2 = (I, A) ∧ ((0 : Int) ≤ o.1.toInt ∧ o.1.toInt ≤ (1 : Int)) ∧ ((o.1.toInt = 1 → pPG x1.toInt x2.toInt))) := by
  unfold f_pawnGoes_0
  have b_I_25 := tI_25 hI
  refine ok_if (fun c34 => ?_) (fun c34 => ?_)
  ·
    replace c34 := ti_eqP c34 rfl (show (0 : Int32).toInt = 0 from rfl)
    exact t_pawnGoes_14    (x1 := x1) (x2 := x2) (t0 := (8 : Int32)) hI hA r_x1 r_x2 (by decide) (by have z0 : (8 : Int32).toInt = 8 := rfl; omega)
  ·
    replace c34 := ti_eqN c34 rfl (show (0 : Int32).toInt = 0 from rfl)
    exact t_pawnGoes_14    (x1 := x1) (x2 := x2) (t0 := (-8 : Int32)) hI hA r_x1 r_x2 (by decide) (by have z0 : (-8 : Int32).toInt = -8 := rfl; omega)
theorem t_pawnGoes  {I : Nat → Int32} {A : Nat → Nat → Int32} {x1 : Int32} {x2 : Int32} (hI : TJ I) (hA : TK A) (r_x1 : (0 : Int) ≤ x1.toInt ∧ x1.toInt ≤ (63 : Int)) (r_x2 : (0 : Int) ≤ x2.toInt ∧ x2.toInt ≤ (63 : Int)) : Ok (f_pawnGoes x1 x2 I A) (fun o => o.2 = (I, A) ∧ ((0 : Int) ≤ o.1.toInt ∧ o.1.toInt ≤ (1 : Int)) ∧ ((o.1.toInt = 1 → pPG x1.toInt x2.toInt))) := t_pawnGoes_0  hI hA r_x1 r_x2
theorem t_goes_274s {y1 y2 kk : Int} {I : Nat → Int32} {A : Nat → Nat → Int32} {self274 : Int32 → Int32 → Int32 → Int32 → (Nat → Int32) → (Nat → Nat → Int32) → Option (Int32 × MS)} {N274 : Nat} (hself274 : ∀ (x2 : Int32) (x8 : Int32) (x9 : Int32) (x10 : Int32),  ((0 : Int) ≤ x2.toInt ∧ x2.toInt ≤ (63 : Int)) → ((-1 : Int) ≤ x8.toInt ∧ x8.toInt ≤ (1 : Int)) → ((-1 : Int) ≤ x9.toInt ∧ x9.toInt ≤ (1 : Int)) → ((0 : Int) ≤ x10.toInt ∧ x10.toInt ≤ (63 : Int)) → (onw x8.toInt x9.toInt x10.toInt x2.toInt) → (x8.toInt ≠ 0 ∨ x9.toInt ≠ 0) → (kk ≠ 1) → (pGE y1 y2) → (mst x8.toInt x9.toInt x10.toInt) < (N274 : Int) → Ok (self274 x2 x8 x9 x10 I A) (fun o => o.2 = (I, A) ∧ ((0 : Int) ≤ o.1.toInt ∧ o.1.toInt ≤ (1 : Int)) ∧ ((o.1.toInt = 1 → pGE y1 y2)) ∧ ((o.1.toInt = 1 → kk = 1 → pPG y1 y2)))) {x2 : Int32} {x8 : Int32} {x9 : Int32} {x10 : Int32} (hI : TJ I) (hA : TK A) (r_x2 : (0 : Int) ≤ x2.toInt ∧ x2.toInt ≤ (63 : Int)) (r_x8 : (-1 : Int) ≤ x8.toInt ∧ x8.toInt ≤ (1 : Int)) (r_x9 : (-1 : Int) ≤ x9.toInt ∧ x9.toInt ≤ (1 : Int)) (r_x10 : (0 : Int) ≤ x10.toInt ∧ x10.toInt ≤ (63 : Int)) (q0 : onw x8.toInt x9.toInt x10.toInt x2.toInt) (q1 : x8.toInt ≠ 0 ∨ x9.toInt ≠ 0) (q2 : kk ≠ 1) (q3 : pGE y1 y2) (m274 : (mst x8.toInt x9.toInt x10.toInt) ≤ (N274 : Int)) : Ok (f_goes_274s self274 x2 x8 x9 x10 I A) (fun o => o.2 = (I, A) ∧ ((0 : Int) ≤ o.1.toInt ∧ o.1.toInt ≤ (1 : Int)) ∧ ((o.1.toInt = 1 → pGE y1 y2)) ∧ ((o.1.toInt = 1 → kk = 1 → pPG y1 y2))) := by
  unfold f_goes_274s
  refine ok_if (fun c35 => ?_) (fun c35 => ?_)
  ·
    replace c35 := ti_eqP c35 rfl rfl
    unfold f_goes_304
    refine ok_if (fun c36 => ?_) (fun c36 => ?_)
    ·
      replace c36 := ti_eqP c36 rfl rfl
      unfold f_goes_315
      refine ok_chk (by decide) ?_
      exact ok_ret ⟨rfl, (show (0 : Int) ≤ (1 : Int32).toInt ∧ (1 : Int32).toInt ≤ (1 : Int) from (by decide)), (by show ((1 : Int32).toInt = 1 → pGE y1 y2); exact fun _ => q3), (by show ((1 : Int32).toInt = 1 → kk = 1 → pPG y1 y2); exact fun _ h => absurd h q2)⟩
    ·
      replace c36 := ti_eqN c36 rfl rfl
      unfold f_goes_315
      refine ok_chk (by decide) ?_
      exact ok_ret ⟨rfl, (show (0 : Int) ≤ (0 : Int32).toInt ∧ (0 : Int32).toInt ≤ (1 : Int) from (by decide)), (by show ((0 : Int32).toInt = 1 → pGE y1 y2); exact fun h => absurd h (by decide)), (by show ((0 : Int32).toInt = 1 → kk = 1 → pPG y1 y2); exact fun h => absurd h (by decide))⟩
  ·
    replace c35 := ti_eqN c35 rfl rfl
    refine ok_chk (ti_in (by omega) (by omega)) ?_
    refine ok_bnd (fun v1 e37 => ?_)
    refine ok_if (fun c38 => ?_) (fun c38 => ?_)
    ·
      replace c38 := ti_eqP c38 rfl (show (0 : Int32).toInt = 0 from rfl)
      obtain ⟨r2, h_r2, p_r2⟩ := ro (t_step (x0 := x10) (x1 := x8) (x2 := x9)  hI hA r_x10 (by omega) (by omega))
      refine ok_clR h_r2 ?_
      dsimp only at p_r2
      have w2 := onw_step r_x8 r_x9 r_x10 r_x2 q0 (by omega) p_r2.2
      exact hself274 x2 x8 x9 r2 r_x2 r_x8 r_x9 (by omega) w2.2 q1 q2 q3 (Int.lt_of_lt_of_le (mst_dec r_x8 r_x9 q1 (by omega) p_r2.2) m274)
    ·
      replace c38 := ti_eqN c38 rfl (show (0 : Int32).toInt = 0 from rfl)
      unfold f_goes_304
      refine ok_if (fun c39 => ?_) (fun c39 => ?_)
      ·
        replace c39 := ti_eqP c39 rfl rfl
        unfold f_goes_315
        refine ok_chk (by decide) ?_
        exact ok_ret ⟨rfl, (show (0 : Int) ≤ (1 : Int32).toInt ∧ (1 : Int32).toInt ≤ (1 : Int) from (by decide)), (by show ((1 : Int32).toInt = 1 → pGE y1 y2); exact fun _ => q3), (by show ((1 : Int32).toInt = 1 → kk = 1 → pPG y1 y2); exact fun _ h => absurd h q2)⟩
      ·
        replace c39 := ti_eqN c39 rfl rfl
        unfold f_goes_315
        refine ok_chk (by decide) ?_
        exact ok_ret ⟨rfl, (show (0 : Int) ≤ (0 : Int32).toInt ∧ (0 : Int32).toInt ≤ (1 : Int) from (by decide)), (by show ((0 : Int32).toInt = 1 → pGE y1 y2); exact fun h => absurd h (by decide)), (by show ((0 : Int32).toInt = 1 → kk = 1 → pPG y1 y2); exact fun h => absurd h (by decide))⟩
theorem t_goes_274 {y1 y2 kk : Int} {I : Nat → Int32} {A : Nat → Nat → Int32} (hI : TJ I) (hA : TK A) : ∀ (n : Nat) (x2 : Int32) (x8 : Int32) (x9 : Int32) (x10 : Int32),  ((0 : Int) ≤ x2.toInt ∧ x2.toInt ≤ (63 : Int)) → ((-1 : Int) ≤ x8.toInt ∧ x8.toInt ≤ (1 : Int)) → ((-1 : Int) ≤ x9.toInt ∧ x9.toInt ≤ (1 : Int)) → ((0 : Int) ≤ x10.toInt ∧ x10.toInt ≤ (63 : Int)) → (onw x8.toInt x9.toInt x10.toInt x2.toInt) → (x8.toInt ≠ 0 ∨ x9.toInt ≠ 0) → (kk ≠ 1) → (pGE y1 y2) → (mst x8.toInt x9.toInt x10.toInt) < (n : Int) → Ok (f_goes_274  n x2 x8 x9 x10 I A) (fun o => o.2 = (I, A) ∧ ((0 : Int) ≤ o.1.toInt ∧ o.1.toInt ≤ (1 : Int)) ∧ ((o.1.toInt = 1 → pGE y1 y2)) ∧ ((o.1.toInt = 1 → kk = 1 → pPG y1 y2))) := by
  intro n
  induction n with
  | zero => intro x2 x8 x9 x10 g0 g1 g2 g3 g4 g5 g6 g7  hm; exfalso; have := mst_nn (s := x10.toInt) g1 g2 ⟨by omega, by omega⟩; omega
  | succ n ih =>
    intro x2 x8 x9 x10 g0 g1 g2 g3 g4 g5 g6 g7  hm
    exact t_goes_274s (y1 := y1) (y2 := y2) (kk := kk)  (N274 := n)  ih hI hA g0 g1 g2 g3 g4 g5 g6 g7  (by omega)
theorem t_goes_262 {y1 y2 kk : Int} {ff rr : Int} {I : Nat → Int32} {A : Nat → Nat → Int32} {x1 : Int32} {x2 : Int32} {x8 : Int32} {t0 : Int32} (hI : TJ I) (hA : TK A) (r_x1 : (0 : Int) ≤ x1.toInt ∧ x1.toInt ≤ (63 : Int)) (r_x2 : (0 : Int) ≤ x2.toInt ∧ x2.toInt ≤ (63 : Int)) (r_x8 : (-1 : Int) ≤ x8.toInt ∧ x8.toInt ≤ (1 : Int)) (r_t0 : (-1 : Int) ≤ t0.toInt ∧ t0.toInt ≤ (1 : Int)) (q0 : gD x1.toInt x2.toInt ff rr y1 y2 kk) (q1 : gA ff rr) (q2 : gS x8.toInt ff) (q3 : gS t0.toInt rr) : Ok (f_goes_262 x1 x2 x8 t0 I A) (fun o => o.2 = (I, A) ∧ ((0 : Int) ≤ o.1.toInt ∧ o.1.toInt ≤ (1 : Int)) ∧ ((o.1.toInt = 1 → pGE y1 y2)) ∧ ((o.1.toInt = 1 → kk = 1 → pPG y1 y2))) := by
  unfold f_goes_262
  obtain ⟨r1, h_r1, p_r1⟩ := ro (t_step (x0 := x1) (x1 := x8) (x2 := t0)  hI hA r_x1 (by omega) (by omega))
  refine ok_clR h_r1 ?_
  dsimp only at p_r1
  have w1 := onw_start r_x1 r_x2 r_x8 r_t0 (gD_ne q0) (gD_al q0 q1) (gD_sx q0 q2) (gD_sy q0 q3) p_r1.2
  exact t_goes_274 (y1 := y1) (y2 := y2) (kk := kk)   hI hA mFuel x2 x8 t0 r1  r_x2 r_x8 r_t0 (by omega) w1.2.2 (by omega) (gD_k q0) (gD_ge q0 q1) (by apply mst_lt <;> omega)
theorem t_goes_241 {y1 y2 kk : Int} {ff : Int} {I : Nat → Int32} {A : Nat → Nat → Int32} {x1 : Int32} {x2 : Int32} {x5 : Int32} {t0 : Int32} (hI : TJ I) (hA : TK A) (r_x1 : (0 : Int) ≤ x1.toInt ∧ x1.toInt ≤ (63 : Int)) (r_x2 : (0 : Int) ≤ x2.toInt ∧ x2.toInt ≤ (63 : Int)) (r_x5 : (-7 : Int) ≤ x5.toInt ∧ x5.toInt ≤ (7 : Int)) (r_t0 : (-1 : Int) ≤ t0.toInt ∧ t0.toInt ≤ (1 : Int)) (q0 : gD x1.toInt x2.toInt ff x5.toInt y1 y2 kk) (q1 : gA ff x5.toInt) (q2 : gS t0.toInt ff) : Ok (f_goes_241 x1 x2 x5 t0 I A) (fun o => o.2 = (I, A) ∧ ((0 : Int) ≤ o.1.toInt ∧ o.1.toInt ≤ (1 : Int)) ∧ ((o.1.toInt = 1 → pGE y1 y2)) ∧ ((o.1.toInt = 1 → kk = 1 → pPG y1 y2))) := by
  unfold f_goes_241
  refine ok_if (fun c40 => ?_) (fun c40 => ?_)
  ·
    replace c40 := ti_leP c40 rfl (show (0 : Int32).toInt = 0 from rfl)
    refine ok_if (fun c41 => ?_) (fun c41 => ?_)
    ·
      replace c41 := ti_leP c41 (show (0 : Int32).toInt = 0 from rfl) rfl
      exact t_goes_262 (y1 := y1) (y2 := y2) (kk := kk)   (x1 := x1) (x2 := x2) (x8 := t0) (t0 := (0 : Int32)) hI hA r_x1 r_x2 r_t0 (by decide) q0 q1 q2 (by unfold gS; have z0 : (0 : Int32).toInt = 0 := rfl; have z1 : (1 : Int32).toInt = 1 := rfl; have z2 : (-1 : Int32).toInt = -1 := rfl; omega)
    ·
      replace c41 := ti_leN c41 (show (0 : Int32).toInt = 0 from rfl) rfl
      exact t_goes_262 (y1 := y1) (y2 := y2) (kk := kk)   (x1 := x1) (x2 := x2) (x8 := t0) (t0 := (-1 : Int32)) hI hA r_x1 r_x2 r_t0 (by decide) q0 q1 q2 (by unfold gS; have z0 : (0 : Int32).toInt = 0 := rfl; have z1 : (1 : Int32).toInt = 1 := rfl; have z2 : (-1 : Int32).toInt = -1 := rfl; omega)
  ·
    replace c40 := ti_leN c40 rfl (show (0 : Int32).toInt = 0 from rfl)
    exact t_goes_262 (y1 := y1) (y2 := y2) (kk := kk)   (x1 := x1) (x2 := x2) (x8 := t0) (t0 := (1 : Int32)) hI hA r_x1 r_x2 r_t0 (by decide) q0 q1 q2 (by unfold gS; have z0 : (0 : Int32).toInt = 0 := rfl; have z1 : (1 : Int32).toInt = 1 := rfl; have z2 : (-1 : Int32).toInt = -1 := rfl; omega)
theorem t_goes_222 {y1 y2 kk : Int} {I : Nat → Int32} {A : Nat → Nat → Int32} {x1 : Int32} {x2 : Int32} {x4 : Int32} {x5 : Int32} (hI : TJ I) (hA : TK A) (r_x1 : (0 : Int) ≤ x1.toInt ∧ x1.toInt ≤ (63 : Int)) (r_x2 : (0 : Int) ≤ x2.toInt ∧ x2.toInt ≤ (63 : Int)) (r_x4 : (-7 : Int) ≤ x4.toInt ∧ x4.toInt ≤ (7 : Int)) (r_x5 : (-7 : Int) ≤ x5.toInt ∧ x5.toInt ≤ (7 : Int)) (q0 : gD x1.toInt x2.toInt x4.toInt x5.toInt y1 y2 kk) (q1 : gA x4.toInt x5.toInt) : Ok (f_goes_222 x1 x2 x4 x5 I A) (fun o => o.2 = (I, A) ∧ ((0 : Int) ≤ o.1.toInt ∧ o.1.toInt ≤ (1 : Int)) ∧ ((o.1.toInt = 1 → pGE y1 y2)) ∧ ((o.1.toInt = 1 → kk = 1 → pPG y1 y2))) := by
  unfold f_goes_222
  refine ok_if (fun c42 => ?_) (fun c42 => ?_)
  ·
    replace c42 := ti_leP c42 rfl (show (0 : Int32).toInt = 0 from rfl)
    refine ok_if (fun c43 => ?_) (fun c43 => ?_)
    ·
      replace c43 := ti_leP c43 (show (0 : Int32).toInt = 0 from rfl) rfl
      exact t_goes_241 (y1 := y1) (y2 := y2) (kk := kk)   (x1 := x1) (x2 := x2) (x5 := x5) (t0 := (0 : Int32)) hI hA r_x1 r_x2 r_x5 (by decide) q0 q1 (by unfold gS; have z0 : (0 : Int32).toInt = 0 := rfl; have z1 : (1 : Int32).toInt = 1 := rfl; have z2 : (-1 : Int32).toInt = -1 := rfl; omega)
    ·
      replace c43 := ti_leN c43 (show (0 : Int32).toInt = 0 from rfl) rfl
      exact t_goes_241 (y1 := y1) (y2 := y2) (kk := kk)   (x1 := x1) (x2 := x2) (x5 := x5) (t0 := (-1 : Int32)) hI hA r_x1 r_x2 r_x5 (by decide) q0 q1 (by unfold gS; have z0 : (0 : Int32).toInt = 0 := rfl; have z1 : (1 : Int32).toInt = 1 := rfl; have z2 : (-1 : Int32).toInt = -1 := rfl; omega)
  ·
    replace c42 := ti_leN c42 rfl (show (0 : Int32).toInt = 0 from rfl)
    exact t_goes_241 (y1 := y1) (y2 := y2) (kk := kk)   (x1 := x1) (x2 := x2) (x5 := x5) (t0 := (1 : Int32)) hI hA r_x1 r_x2 r_x5 (by decide) q0 q1 (by unfold gS; have z0 : (0 : Int32).toInt = 0 := rfl; have z1 : (1 : Int32).toInt = 1 := rfl; have z2 : (-1 : Int32).toInt = -1 := rfl; omega)
theorem t_goes_210 {y1 y2 kk : Int} {I : Nat → Int32} {A : Nat → Nat → Int32} {x1 : Int32} {x2 : Int32} {x3 : Int32} {x4 : Int32} {x5 : Int32} {x7 : Int32} (hI : TJ I) (hA : TK A) (r_x1 : (0 : Int) ≤ x1.toInt ∧ x1.toInt ≤ (63 : Int)) (r_x2 : (0 : Int) ≤ x2.toInt ∧ x2.toInt ≤ (63 : Int)) (r_x3 : (0 : Int) ≤ x3.toInt ∧ x3.toInt ≤ (7 : Int)) (r_x4 : (-7 : Int) ≤ x4.toInt ∧ x4.toInt ≤ (7 : Int)) (r_x5 : (-7 : Int) ≤ x5.toInt ∧ x5.toInt ≤ (7 : Int)) (r_x7 : (0 : Int) ≤ x7.toInt ∧ x7.toInt ≤ (1 : Int)) (q0 : gD x1.toInt x2.toInt x4.toInt x5.toInt y1 y2 kk) (q1 : gA x4.toInt x5.toInt) : Ok (f_goes_210 x1 x2 x3 x4 x5 x7 I A) (fun o => o.2 = (I, A) ∧ ((0 : Int) ≤ o.1.toInt ∧ o.1.toInt ≤ (1 : Int)) ∧ ((o.1.toInt = 1 → pGE y1 y2)) ∧ ((o.1.toInt = 1 → kk = 1 → pPG y1 y2))) := by
  unfold f_goes_210
  refine ok_if (fun c44 => ?_) (fun c44 => ?_)
  ·
    replace c44 := ti_eqP c44 rfl (show (0 : Int32).toInt = 0 from rfl)
    refine ok_if (fun c45 => ?_) (fun c45 => ?_)
    ·
      replace c45 := ti_eqP c45 rfl (show (4 : Int32).toInt = 4 from rfl)
      unfold f_goes_220
      refine ok_chk (by decide) ?_
      exact ok_ret ⟨rfl, (show (0 : Int) ≤ (0 : Int32).toInt ∧ (0 : Int32).toInt ≤ (1 : Int) from (by decide)), (by show ((0 : Int32).toInt = 1 → pGE y1 y2); exact fun h => absurd h (by decide)), (by show ((0 : Int32).toInt = 1 → kk = 1 → pPG y1 y2); exact fun h => absurd h (by decide))⟩
    ·
      replace c45 := ti_eqN c45 rfl (show (4 : Int32).toInt = 4 from rfl)
      exact t_goes_222 (y1 := y1) (y2 := y2) (kk := kk)   (x1 := x1) (x2 := x2) (x4 := x4) (x5 := x5) hI hA r_x1 r_x2 r_x4 r_x5 q0 q1
  ·
    replace c44 := ti_eqN c44 rfl (show (0 : Int32).toInt = 0 from rfl)
    exact t_goes_222 (y1 := y1) (y2 := y2) (kk := kk)   (x1 := x1) (x2 := x2) (x4 := x4) (x5 := x5) hI hA r_x1 r_x2 r_x4 r_x5 q0 q1
theorem t_goes_200 {y1 y2 kk : Int} {I : Nat → Int32} {A : Nat → Nat → Int32} {x1 : Int32} {x2 : Int32} {x3 : Int32} {x4 : Int32} {x5 : Int32} {x7 : Int32} (hI : TJ I) (hA : TK A) (r_x1 : (0 : Int) ≤ x1.toInt ∧ x1.toInt ≤ (63 : Int)) (r_x2 : (0 : Int) ≤ x2.toInt ∧ x2.toInt ≤ (63 : Int)) (r_x3 : (0 : Int) ≤ x3.toInt ∧ x3.toInt ≤ (7 : Int)) (r_x4 : (-7 : Int) ≤ x4.toInt ∧ x4.toInt ≤ (7 : Int)) (r_x5 : (-7 : Int) ≤ x5.toInt ∧ x5.toInt ≤ (7 : Int)) (r_x7 : (0 : Int) ≤ x7.toInt ∧ x7.toInt ≤ (1 : Int)) (q0 : gD x1.toInt x2.toInt x4.toInt x5.toInt y1 y2 kk) (q1 : gA x4.toInt x5.toInt) : Ok (f_goes_200 x1 x2 x3 x4 x5 x7 I A) (fun o => o.2 = (I, A) ∧ ((0 : Int) ≤ o.1.toInt ∧ o.1.toInt ≤ (1 : Int)) ∧ ((o.1.toInt = 1 → pGE y1 y2)) ∧ ((o.1.toInt = 1 → kk = 1 → pPG y1 y2))) := by
  unfold f_goes_200
  refine ok_if (fun c46 => ?_) (fun c46 => ?_)
  ·
    replace c46 := ti_eqP c46 rfl (show (0 : Int32).toInt = 0 from rfl)
    exact t_goes_210 (y1 := y1) (y2 := y2) (kk := kk)   (x1 := x1) (x2 := x2) (x3 := x3) (x4 := x4) (x5 := x5) (x7 := x7) hI hA r_x1 r_x2 r_x3 r_x4 r_x5 r_x7 q0 q1
  ·
    replace c46 := ti_eqN c46 rfl (show (0 : Int32).toInt = 0 from rfl)
    refine ok_if (fun c47 => ?_) (fun c47 => ?_)
    ·
      replace c47 := ti_eqP c47 rfl (show (3 : Int32).toInt = 3 from rfl)
      unfold f_goes_220
      refine ok_chk (by decide) ?_
      exact ok_ret ⟨rfl, (show (0 : Int) ≤ (0 : Int32).toInt ∧ (0 : Int32).toInt ≤ (1 : Int) from (by decide)), (by show ((0 : Int32).toInt = 1 → pGE y1 y2); exact fun h => absurd h (by decide)), (by show ((0 : Int32).toInt = 1 → kk = 1 → pPG y1 y2); exact fun h => absurd h (by decide))⟩
    ·
      replace c47 := ti_eqN c47 rfl (show (3 : Int32).toInt = 3 from rfl)
      exact t_goes_210 (y1 := y1) (y2 := y2) (kk := kk)   (x1 := x1) (x2 := x2) (x3 := x3) (x4 := x4) (x5 := x5) (x7 := x7) hI hA r_x1 r_x2 r_x3 r_x4 r_x5 r_x7 q0 q1
theorem t_goes_178 {y1 y2 kk : Int} {I : Nat → Int32} {A : Nat → Nat → Int32} {x1 : Int32} {x2 : Int32} {x3 : Int32} {x4 : Int32} {x5 : Int32} {t0 : Int32} (hI : TJ I) (hA : TK A) (r_x1 : (0 : Int) ≤ x1.toInt ∧ x1.toInt ≤ (63 : Int)) (r_x2 : (0 : Int) ≤ x2.toInt ∧ x2.toInt ≤ (63 : Int)) (r_x3 : (0 : Int) ≤ x3.toInt ∧ x3.toInt ≤ (7 : Int)) (r_x4 : (-7 : Int) ≤ x4.toInt ∧ x4.toInt ≤ (7 : Int)) (r_x5 : (-7 : Int) ≤ x5.toInt ∧ x5.toInt ≤ (7 : Int)) (r_t0 : (0 : Int) ≤ t0.toInt ∧ t0.toInt ≤ (1 : Int)) (q0 : gD x1.toInt x2.toInt x4.toInt x5.toInt y1 y2 kk) (q1 : (t0.toInt = 1 → x4.toInt = 0 ∨ x5.toInt = 0)) : Ok (f_goes_178 x1 x2 x3 x4 x5 t0 I A) (fun o => o.2 = (I, A) ∧ ((0 : Int) ≤ o.1.toInt ∧ o.1.toInt ≤ (1 : Int)) ∧ ((o.1.toInt = 1 → pGE y1 y2)) ∧ ((o.1.toInt = 1 → kk = 1 → pPG y1 y2))) := by
  unfold f_goes_178
  refine ok_if (fun c48 => ?_) (fun c48 => ?_)
  ·
    replace c48 := ti_eqP c48 rfl (show (0 : Int32).toInt = 0 from rfl)
    refine ok_if (fun c49 => ?_) (fun c49 => ?_)
    ·
      replace c49 := ti_eqP c49 rfl rfl
      exact t_goes_200 (y1 := y1) (y2 := y2) (kk := kk)   (x1 := x1) (x2 := x2) (x3 := x3) (x4 := x4) (x5 := x5) (x7 := t0) hI hA r_x1 r_x2 r_x3 r_x4 r_x5 r_t0 q0 (by unfold gA; omega)
    ·
      replace c49 := ti_eqN c49 rfl rfl
      refine ok_bnd (fun v1 e50 => ?_)
      have t_v1 : v1.toInt = -x5.toInt := ti_neg e50 rfl (by omega)
      refine ok_if (fun c51 => ?_) (fun c51 => ?_)
      ·
        replace c51 := ti_eqP c51 rfl rfl
        exact t_goes_200 (y1 := y1) (y2 := y2) (kk := kk)   (x1 := x1) (x2 := x2) (x3 := x3) (x4 := x4) (x5 := x5) (x7 := t0) hI hA r_x1 r_x2 r_x3 r_x4 r_x5 r_t0 q0 (by unfold gA; omega)
      ·
        replace c51 := ti_eqN c51 rfl rfl
        unfold f_goes_220
        refine ok_chk (by decide) ?_
        exact ok_ret ⟨rfl, (show (0 : Int) ≤ (0 : Int32).toInt ∧ (0 : Int32).toInt ≤ (1 : Int) from (by decide)), (by show ((0 : Int32).toInt = 1 → pGE y1 y2); exact fun h => absurd h (by decide)), (by show ((0 : Int32).toInt = 1 → kk = 1 → pPG y1 y2); exact fun h => absurd h (by decide))⟩
  ·
    replace c48 := ti_eqN c48 rfl (show (0 : Int32).toInt = 0 from rfl)
    exact t_goes_200 (y1 := y1) (y2 := y2) (kk := kk)   (x1 := x1) (x2 := x2) (x3 := x3) (x4 := x4) (x5 := x5) (x7 := t0) hI hA r_x1 r_x2 r_x3 r_x4 r_x5 r_t0 q0 (by unfold gA; omega)
theorem pge_de {a b d e : Int} (h1 : d = b % 8 - a % 8) (h2 : e = b / 8 - a / 8) (h : (d = 0 ∨ e = 0 ∨ d = e ∨ d = -e) ∨ ((d = 1 ∨ d = -1) ∧ (e = 2 ∨ e = -2)) ∨ ((d = 2 ∨ d = -2) ∧ (e = 1 ∨ e = -1))) : pGE a b := by
  unfold pGE
  rw [← h1, ← h2]
  rcases h with (h | h | h | h) | h | h
  · exact Or.inl (Or.inl h)
  · exact Or.inl (Or.inr (Or.inl h))
  · exact Or.inl (Or.inr (Or.inr (Or.inl h)))
  · exact Or.inl (Or.inr (Or.inr (Or.inr (by omega))))
  · exact Or.inr (Or.inl h)
  · exact Or.inr (Or.inr h)
theorem sq_kn {d e c c2 s : Int} (hd : (d = 0 ∧ c = 0) ∨ ((d = 1 ∨ d = -1) ∧ c = 1) ∨ ((d = 2 ∨ d = -2) ∧ c = 4) ∨ ((2 < d ∨ d < -2) ∧ 9 ≤ c ∧ c ≤ 49)) (he : (e = 0 ∧ c2 = 0) ∨ ((e = 1 ∨ e = -1) ∧ c2 = 1) ∨ ((e = 2 ∨ e = -2) ∧ c2 = 4) ∨ ((2 < e ∨ e < -2) ∧ 9 ≤ c2 ∧ c2 ≤ 49)) (hs : s = c + c2) (h : s = 5) : ((d = 1 ∨ d = -1) ∧ (e = 2 ∨ e = -2)) ∨ ((d = 2 ∨ d = -2) ∧ (e = 1 ∨ e = -1)) := by omega
theorem sq_kg {d e c c2 s : Int} (hd : (d = 0 ∧ c = 0) ∨ ((d = 1 ∨ d = -1) ∧ c = 1) ∨ ((d = 2 ∨ d = -2) ∧ c = 4) ∨ ((2 < d ∨ d < -2) ∧ 9 ≤ c ∧ c ≤ 49)) (he : (e = 0 ∧ c2 = 0) ∨ ((e = 1 ∨ e = -1) ∧ c2 = 1) ∨ ((e = 2 ∨ e = -2) ∧ c2 = 4) ∨ ((2 < e ∨ e < -2) ∧ 9 ≤ c2 ∧ c2 ≤ 49)) (hs : s = c + c2) (h : s < 3) : d = 0 ∨ e = 0 ∨ d = e ∨ d = -e := by omega
theorem t_goes_0 {y1 y2 kk : Int} {I : Nat → Int32} {A : Nat → Nat → Int32} {x1 : Int32} {x2 : Int32} (hI : TJ I) (hA : TK A) (r_x1 : (0 : Int) ≤ x1.toInt ∧ x1.toInt ≤ (63 : Int)) (r_x2 : (0 : Int) ≤ x2.toInt ∧ x2.toInt ≤ (63 : Int)) (q0 : y1 = x1.toInt ∧ y2 = x2.toInt) (q1 : kk = ((A 24 (x1).toNatClampNeg) &&& (7 : Int32)).toInt) : Ok (f_goes_0 x1 x2 I A) (fun o => o.2 = (I, A) ∧ ((0 : Int) ≤ o.1.toInt ∧ o.1.toInt ≤ (1 : Int)) ∧ ((o.1.toInt = 1 → pGE y1 y2)) ∧ ((o.1.toInt = 1 → kk = 1 → pPG y1 y2))) := by
  unfold f_goes_0
  refine ok_chk (ti_in (by omega) (by omega)) ?_
  refine ok_bnd (fun v1 e52 => ?_)
  obtain ⟨r2, h_r2, p_r2⟩ := ro (t_sideOf (x0 := v1)  hI hA )
  refine ok_clR h_r2 ?_
  have b_I_25 := tI_25 hI
  refine ok_if (fun c53 => ?_) (fun c53 => ?_)
  ·
    replace c53 := ti_eqP c53 rfl rfl
    refine ok_chk (ti_in (by omega) (by omega)) ?_
    refine ok_bnd (fun v3 e54 => ?_)
    obtain ⟨r4, h_r4, p_r4⟩ := ro (t_sideOf (x0 := v3)  hI hA )
    refine ok_clR h_r4 ?_
    refine ok_if (fun c55 => ?_) (fun c55 => ?_)
    ·
      replace c55 := ti_eqP c55 rfl rfl
      unfold f_goes_37
      refine ok_chk (by decide) ?_
      exact ok_ret ⟨rfl, (show (0 : Int) ≤ (0 : Int32).toInt ∧ (0 : Int32).toInt ≤ (1 : Int) from (by decide)), (by show ((0 : Int32).toInt = 1 → pGE y1 y2); exact fun h => absurd h (by decide)), (by show ((0 : Int32).toInt = 1 → kk = 1 → pPG y1 y2); exact fun h => absurd h (by decide))⟩
    ·
      replace c55 := ti_eqN c55 rfl rfl
      refine ok_if (fun c56 => ?_) (fun c56 => ?_)
      ·
        replace c56 := ti_eqP c56 rfl rfl
        unfold f_goes_37
        refine ok_chk (by decide) ?_
        exact ok_ret ⟨rfl, (show (0 : Int) ≤ (0 : Int32).toInt ∧ (0 : Int32).toInt ≤ (1 : Int) from (by decide)), (by show ((0 : Int32).toInt = 1 → pGE y1 y2); exact fun h => absurd h (by decide)), (by show ((0 : Int32).toInt = 1 → kk = 1 → pPG y1 y2); exact fun h => absurd h (by decide))⟩
      ·
        replace c56 := ti_eqN c56 rfl rfl
        refine ok_chk (ti_in (by omega) (by omega)) ?_
        refine ok_bnd (fun v5 e57 => ?_)
        obtain ⟨r6, h_r6, p_r6⟩ := ro (t_kind (x0 := v5)  hI hA )
        refine ok_clR h_r6 ?_
        dsimp only at p_r6
        have k6 : kk = r6.toInt := by rw [q1, p_r6.2, e57]
        refine ok_if (fun c58 => ?_) (fun c58 => ?_)
        ·
          replace c58 := ti_eqP c58 rfl (show (1 : Int32).toInt = 1 from rfl)
          obtain ⟨r19, h_r19, p_r19⟩ := ro (t_pawnGoes (x1 := x1) (x2 := x2)  hI hA r_x1 r_x2)
          refine ok_clR h_r19 ?_
          dsimp only at p_r19
          refine ok_chk (nar_b (by omega) (by omega)) ?_
          exact ok_ret ⟨rfl, (show (0 : Int) ≤ r19.toInt ∧ r19.toInt ≤ (1 : Int) from (by omega)), (by show ((r19 : Int32).toInt = 1 → pGE y1 y2); intro h; rw [q0.1, q0.2]; exact pPG_GE r_x1 r_x2 (p_r19.2 h)), (by show ((r19 : Int32).toInt = 1 → kk = 1 → pPG y1 y2); intro h h2; first | (exfalso; omega) | (rw [q0.1, q0.2]; exact p_r19.2 h))⟩
        ·
          replace c58 := ti_eqN c58 rfl (show (1 : Int32).toInt = 1 from rfl)
          refine ok_bnd (fun v7 e59 => ?_)
          have t_v7 : v7.toInt = x2.toInt % 8 := ti_rem e59 rfl (show (8 : Int32).toInt = 8 from rfl) (by omega) (by decide)
          refine ok_bnd (fun v8 e60 => ?_)
          have t_v8 : v8.toInt = x1.toInt % 8 := ti_rem e60 rfl (show (8 : Int32).toInt = 8 from rfl) (by omega) (by decide)
          refine ok_bnd (fun v9 e61 => ?_)
          have t_v9 : v9.toInt = v7.toInt - v8.toInt := ti_sub e61 rfl rfl (by omega) (by omega)
          refine ok_bnd (fun v10 e62 => ?_)
          have t_v10 : v10.toInt = x2.toInt / 8 := ti_div e62 rfl (show (8 : Int32).toInt = 8 from rfl) (by omega) (by decide)
          refine ok_bnd (fun v11 e63 => ?_)
          have t_v11 : v11.toInt = x1.toInt / 8 := ti_div e63 rfl (show (8 : Int32).toInt = 8 from rfl) (by omega) (by decide)
          refine ok_bnd (fun v12 e64 => ?_)
          have t_v12 : v12.toInt = v10.toInt - v11.toInt := ti_sub e64 rfl rfl (by omega) (by omega)
          refine ok_bnd (fun v13 e65 => ?_)
          have t_v13 := ti_sq e65 (by omega) (by omega)
          refine ok_bnd (fun v14 e66 => ?_)
          have t_v14 := ti_sq e66 (by omega) (by omega)
          refine ok_bnd (fun v15 e67 => ?_)
          have t_v15 : v15.toInt = v13.toInt + v14.toInt := ti_add e67 rfl rfl (by omega) (by omega)
          refine ok_if (fun c68 => ?_) (fun c68 => ?_)
          ·
            replace c68 := ti_eqP c68 rfl (show (2 : Int32).toInt = 2 from rfl)
            refine ok_if (fun c69 => ?_) (fun c69 => ?_)
            ·
              replace c69 := ti_eqP c69 rfl (show (5 : Int32).toInt = 5 from rfl)
              unfold f_goes_112
              refine ok_chk (by decide) ?_
              exact ok_ret ⟨rfl, (show (0 : Int) ≤ (1 : Int32).toInt ∧ (1 : Int32).toInt ≤ (1 : Int) from (by decide)), (by show ((1 : Int32).toInt = 1 → pGE y1 y2); intro h; rw [q0.1, q0.2]; first | exact pge_de (d := v9.toInt) (e := v12.toInt) (by rw [t_v9, t_v7, t_v8]) (by rw [t_v12, t_v10, t_v11]) (Or.inr (sq_kn t_v13 t_v14 t_v15 c69)) | exact pge_de (d := v9.toInt) (e := v12.toInt) (by rw [t_v9, t_v7, t_v8]) (by rw [t_v12, t_v10, t_v11]) (Or.inl (sq_kg t_v13 t_v14 t_v15 c71)) | exact pge_de (d := v9.toInt) (e := v12.toInt) (by rw [t_v9, t_v7, t_v8]) (by rw [t_v12, t_v10, t_v11]) (Or.inl (Or.inr (Or.inl c75))) | (unfold pGE; omega)), (by show ((1 : Int32).toInt = 1 → kk = 1 → pPG y1 y2); intro h h2; first | (exfalso; omega) | (rw [q0.1, q0.2]; exact p_r19.2 h))⟩
            ·
              replace c69 := ti_eqN c69 rfl (show (5 : Int32).toInt = 5 from rfl)
              unfold f_goes_112
              refine ok_chk (by decide) ?_
              exact ok_ret ⟨rfl, (show (0 : Int) ≤ (0 : Int32).toInt ∧ (0 : Int32).toInt ≤ (1 : Int) from (by decide)), (by show ((0 : Int32).toInt = 1 → pGE y1 y2); exact fun h => absurd h (by decide)), (by show ((0 : Int32).toInt = 1 → kk = 1 → pPG y1 y2); exact fun h => absurd h (by decide))⟩
          ·
            replace c68 := ti_eqN c68 rfl (show (2 : Int32).toInt = 2 from rfl)
            refine ok_if (fun c70 => ?_) (fun c70 => ?_)
            ·
              replace c70 := ti_eqP c70 rfl (show (6 : Int32).toInt = 6 from rfl)
              refine ok_if (fun c71 => ?_) (fun c71 => ?_)
              ·
                replace c71 := ti_ltP c71 rfl (show (3 : Int32).toInt = 3 from rfl)
                unfold f_goes_157
                unfold f_goes_162
                refine ok_chk (by decide) ?_
                exact ok_ret ⟨rfl, (show (0 : Int) ≤ (1 : Int32).toInt ∧ (1 : Int32).toInt ≤ (1 : Int) from (by decide)), (by show ((1 : Int32).toInt = 1 → pGE y1 y2); intro h; rw [q0.1, q0.2]; first | exact pge_de (d := v9.toInt) (e := v12.toInt) (by rw [t_v9, t_v7, t_v8]) (by rw [t_v12, t_v10, t_v11]) (Or.inr (sq_kn t_v13 t_v14 t_v15 c69)) | exact pge_de (d := v9.toInt) (e := v12.toInt) (by rw [t_v9, t_v7, t_v8]) (by rw [t_v12, t_v10, t_v11]) (Or.inl (sq_kg t_v13 t_v14 t_v15 c71)) | exact pge_de (d := v9.toInt) (e := v12.toInt) (by rw [t_v9, t_v7, t_v8]) (by rw [t_v12, t_v10, t_v11]) (Or.inl (Or.inr (Or.inl c75))) | (unfold pGE; omega)), (by show ((1 : Int32).toInt = 1 → kk = 1 → pPG y1 y2); intro h h2; first | (exfalso; omega) | (rw [q0.1, q0.2]; exact p_r19.2 h))⟩
              ·
                replace c71 := ti_ltN c71 rfl (show (3 : Int32).toInt = 3 from rfl)
                refine ok_bnd (fun v16 e72 => ?_)
                have t_v16 : v16.toInt = 56 * (I 25).toInt := ti_mul e72 (show (56 : Int32).toInt = 56 from rfl) rfl (by omega) (by omega)
                refine ok_bnd (fun v17 e73 => ?_)
                have t_v17 : v17.toInt = 4 + v16.toInt := ti_add e73 (show (4 : Int32).toInt = 4 from rfl) rfl (by omega) (by omega)
                refine ok_if (fun c74 => ?_) (fun c74 => ?_)
                ·
                  replace c74 := ti_eqP c74 rfl rfl
                  refine ok_if (fun c75 => ?_) (fun c75 => ?_)
                  ·
                    replace c75 := ti_eqP c75 rfl (show (0 : Int32).toInt = 0 from rfl)
                    refine ok_if (fun c76 => ?_) (fun c76 => ?_)
                    ·
                      replace c76 := ti_eqP c76 rfl (show (4 : Int32).toInt = 4 from rfl)
                      obtain ⟨r18, h_r18, p_r18⟩ := ro (t_mayCastle (x1 := x2)  hI hA r_x2)
                      refine ok_clR h_r18 ?_
                      dsimp only at p_r18
                      refine ok_if (fun c77 => ?_) (fun c77 => ?_)
                      ·
                        replace c77 := ti_eqP c77 rfl (show (0 : Int32).toInt = 0 from rfl)
                        unfold f_goes_161
                        unfold f_goes_162
                        refine ok_chk (by decide) ?_
                        exact ok_ret ⟨rfl, (show (0 : Int) ≤ (0 : Int32).toInt ∧ (0 : Int32).toInt ≤ (1 : Int) from (by decide)), (by show ((0 : Int32).toInt = 1 → pGE y1 y2); exact fun h => absurd h (by decide)), (by show ((0 : Int32).toInt = 1 → kk = 1 → pPG y1 y2); exact fun h => absurd h (by decide))⟩
                      ·
                        replace c77 := ti_eqN c77 rfl (show (0 : Int32).toInt = 0 from rfl)
                        unfold f_goes_157
                        unfold f_goes_162
                        refine ok_chk (by decide) ?_
                        exact ok_ret ⟨rfl, (show (0 : Int) ≤ (1 : Int32).toInt ∧ (1 : Int32).toInt ≤ (1 : Int) from (by decide)), (by show ((1 : Int32).toInt = 1 → pGE y1 y2); intro h; rw [q0.1, q0.2]; first | exact pge_de (d := v9.toInt) (e := v12.toInt) (by rw [t_v9, t_v7, t_v8]) (by rw [t_v12, t_v10, t_v11]) (Or.inr (sq_kn t_v13 t_v14 t_v15 c69)) | exact pge_de (d := v9.toInt) (e := v12.toInt) (by rw [t_v9, t_v7, t_v8]) (by rw [t_v12, t_v10, t_v11]) (Or.inl (sq_kg t_v13 t_v14 t_v15 c71)) | exact pge_de (d := v9.toInt) (e := v12.toInt) (by rw [t_v9, t_v7, t_v8]) (by rw [t_v12, t_v10, t_v11]) (Or.inl (Or.inr (Or.inl c75))) | (unfold pGE; omega)), (by show ((1 : Int32).toInt = 1 → kk = 1 → pPG y1 y2); intro h h2; first | (exfalso; omega) | (rw [q0.1, q0.2]; exact p_r19.2 h))⟩
                    ·
                      replace c76 := ti_eqN c76 rfl (show (4 : Int32).toInt = 4 from rfl)
                      unfold f_goes_161
                      unfold f_goes_162
                      refine ok_chk (by decide) ?_
                      exact ok_ret ⟨rfl, (show (0 : Int) ≤ (0 : Int32).toInt ∧ (0 : Int32).toInt ≤ (1 : Int) from (by decide)), (by show ((0 : Int32).toInt = 1 → pGE y1 y2); exact fun h => absurd h (by decide)), (by show ((0 : Int32).toInt = 1 → kk = 1 → pPG y1 y2); exact fun h => absurd h (by decide))⟩
                  ·
                    replace c75 := ti_eqN c75 rfl (show (0 : Int32).toInt = 0 from rfl)
                    unfold f_goes_161
                    unfold f_goes_162
                    refine ok_chk (by decide) ?_
                    exact ok_ret ⟨rfl, (show (0 : Int) ≤ (0 : Int32).toInt ∧ (0 : Int32).toInt ≤ (1 : Int) from (by decide)), (by show ((0 : Int32).toInt = 1 → pGE y1 y2); exact fun h => absurd h (by decide)), (by show ((0 : Int32).toInt = 1 → kk = 1 → pPG y1 y2); exact fun h => absurd h (by decide))⟩
                ·
                  replace c74 := ti_eqN c74 rfl rfl
                  unfold f_goes_161
                  unfold f_goes_162
                  refine ok_chk (by decide) ?_
                  exact ok_ret ⟨rfl, (show (0 : Int) ≤ (0 : Int32).toInt ∧ (0 : Int32).toInt ≤ (1 : Int) from (by decide)), (by show ((0 : Int32).toInt = 1 → pGE y1 y2); exact fun h => absurd h (by decide)), (by show ((0 : Int32).toInt = 1 → kk = 1 → pPG y1 y2); exact fun h => absurd h (by decide))⟩
            ·
              replace c70 := ti_eqN c70 rfl (show (6 : Int32).toInt = 6 from rfl)
              refine ok_if (fun c78 => ?_) (fun c78 => ?_)
              ·
                replace c78 := ti_eqP c78 rfl (show (0 : Int32).toInt = 0 from rfl)
                unfold f_goes_173
                exact t_goes_178 (y1 := y1) (y2 := y2) (kk := kk)   (x1 := x1) (x2 := x2) (x3 := r6) (x4 := v9) (x5 := v12) (t0 := (1 : Int32)) hI hA r_x1 r_x2 (by omega) (by omega) (by omega) (by decide) (by unfold gD; omega) (by have z0 : (1 : Int32).toInt = 1 := rfl; omega)
              ·
                replace c78 := ti_eqN c78 rfl (show (0 : Int32).toInt = 0 from rfl)
                refine ok_if (fun c79 => ?_) (fun c79 => ?_)
                ·
                  replace c79 := ti_eqP c79 rfl (show (0 : Int32).toInt = 0 from rfl)
                  unfold f_goes_173
                  exact t_goes_178 (y1 := y1) (y2 := y2) (kk := kk)   (x1 := x1) (x2 := x2) (x3 := r6) (x4 := v9) (x5 := v12) (t0 := (1 : Int32)) hI hA r_x1 r_x2 (by omega) (by omega) (by omega) (by decide) (by unfold gD; omega) (by have z0 : (1 : Int32).toInt = 1 := rfl; omega)
                ·
                  replace c79 := ti_eqN c79 rfl (show (0 : Int32).toInt = 0 from rfl)
                  exact t_goes_178 (y1 := y1) (y2 := y2) (kk := kk)   (x1 := x1) (x2 := x2) (x3 := r6) (x4 := v9) (x5 := v12) (t0 := (0 : Int32)) hI hA r_x1 r_x2 (by omega) (by omega) (by omega) (by decide) (by unfold gD; omega) (by have z0 : (0 : Int32).toInt = 0 := rfl; omega)
  ·
    replace c53 := ti_eqN c53 rfl rfl
    unfold f_goes_37
    refine ok_chk (by decide) ?_
    exact ok_ret ⟨rfl, (show (0 : Int) ≤ (0 : Int32).toInt ∧ (0 : Int32).toInt ≤ (1 : Int) from (by decide)), (by show ((0 : Int32).toInt = 1 → pGE y1 y2); exact fun h => absurd h (by decide)), (by show ((0 : Int32).toInt = 1 → kk = 1 → pPG y1 y2); exact fun h => absurd h (by decide))⟩
theorem t_goes {y1 y2 kk : Int} {I : Nat → Int32} {A : Nat → Nat → Int32} {x1 : Int32} {x2 : Int32} (hI : TJ I) (hA : TK A) (r_x1 : (0 : Int) ≤ x1.toInt ∧ x1.toInt ≤ (63 : Int)) (r_x2 : (0 : Int) ≤ x2.toInt ∧ x2.toInt ≤ (63 : Int)) (q0 : y1 = x1.toInt ∧ y2 = x2.toInt) (q1 : kk = ((A 24 (x1).toNatClampNeg) &&& (7 : Int32)).toInt) : Ok (f_goes x1 x2 I A) (fun o => o.2 = (I, A) ∧ ((0 : Int) ≤ o.1.toInt ∧ o.1.toInt ≤ (1 : Int)) ∧ ((o.1.toInt = 1 → pGE y1 y2)) ∧ ((o.1.toInt = 1 → kk = 1 → pPG y1 y2))) := t_goes_0 (y1 := y1) (y2 := y2) (kk := kk) hI hA r_x1 r_x2 q0 q1
end
section
theorem t_isSafe_0  {I : Nat → Int32} {A : Nat → Nat → Int32} {x1 : Int32} (hI : TJ I) (hA : TK A) (r_x1 : (0 : Int) ≤ x1.toInt ∧ x1.toInt ≤ (24575 : Int)) (q0 : (I 29).toInt ≤ 1999) : Ok (f_isSafe_0 x1 I A) (fun o => TJ o.2.1 ∧ TK o.2.2 ∧ ((0 : Int) ≤ o.1.toInt ∧ o.1.toInt ≤ (1 : Int))) := by
  unfold f_isSafe_0
  refine ok_cl (o := (0, (I, nA I A))) rfl ?_
  have hA_Ac1 := tk_nA hI hA
  have fA_Ac1 : ∀ j, j ≠ 30 → j ≠ 31 → nA I A j = A j := fun j a b => nA_o a b
  have n4_Ac1 : nA I A 31 4 = I 29 := rfl
  generalize nA I A = Ac1 at hA_Ac1 fA_Ac1 n4_Ac1 ⊢
  have b_I_29 := tI_29 hI
  obtain ⟨⟨r2, Ic2, Ac2⟩, h_r2, hI_Ic2, hA_Ac2, p_r2_0⟩ := t_make (x1 := x1)  hI hA_Ac1 r_x1 (⟨Int.le_refl _, q0⟩ : (I 29).toInt ≤ (I 29).toInt ∧ (I 29).toInt ≤ 1999)
  replace hI_Ic2 : TJ Ic2 := hI_Ic2
  replace hA_Ac2 : TK Ac2 := hA_Ac2
  dsimp only at p_r2_0
  refine ok_clR h_r2 ?_
  refine ok_bnd (fun v3 e1 => ?_)
  have b_Ic2_25 := tI_25 hI_Ic2
  have t_v3 : v3.toInt = 1 - (Ic2 25).toInt := ti_sub e1 (show (1 : Int32).toInt = 1 from rfl) rfl (by omega) (by omega)
  obtain ⟨r4, h_r4, p_r4⟩ := ro (t_isInCheck (x1 := v3)  hI_Ic2 hA_Ac2 (by omega))
  refine ok_clR h_r4 ?_
  dsimp only at p_r4
  refine ok_if (fun c2 => ?_) (fun c2 => ?_)
  ·
    replace c2 := ti_eqP c2 rfl (show (0 : Int32).toInt = 0 from rfl)
    unfold f_isSafe_27
    refine ok_cl (o := (0, (nB Ic2 Ac2, va_up Ac2 24 (Ac2 30)))) rfl ?_
    have hI_Ic1 := tj_nB hI_Ic2 hA_Ac2
    have hA_Ac1 := tk_bb hA_Ac2
    have n29_Ic1 : nB Ic2 Ac2 29 = Ac2 31 4 := rfl
    generalize nB Ic2 Ac2 = Ic1 at hI_Ic1 n29_Ic1 ⊢
    have fA_Ac1 : ∀ j, j ≠ 24 → va_up Ac2 24 (Ac2 30) j = Ac2 j := fun j a => va_up_ne _ _ a
    generalize va_up Ac2 24 (Ac2 30) = Ac1 at hA_Ac1 fA_Ac1 ⊢
    refine ok_chk (by decide) ?_
    exact ok_ret ⟨hI_Ic1, hA_Ac1, (show (0 : Int) ≤ (1 : Int32).toInt ∧ (1 : Int32).toInt ≤ (1 : Int) from (by decide))⟩
  ·
    replace c2 := ti_eqN c2 rfl (show (0 : Int32).toInt = 0 from rfl)
    unfold f_isSafe_27
    refine ok_cl (o := (0, (nB Ic2 Ac2, va_up Ac2 24 (Ac2 30)))) rfl ?_
    have hI_Ic1 := tj_nB hI_Ic2 hA_Ac2
    have hA_Ac1 := tk_bb hA_Ac2
    have n29_Ic1 : nB Ic2 Ac2 29 = Ac2 31 4 := rfl
    generalize nB Ic2 Ac2 = Ic1 at hI_Ic1 n29_Ic1 ⊢
    have fA_Ac1 : ∀ j, j ≠ 24 → va_up Ac2 24 (Ac2 30) j = Ac2 j := fun j a => va_up_ne _ _ a
    generalize va_up Ac2 24 (Ac2 30) = Ac1 at hA_Ac1 fA_Ac1 ⊢
    refine ok_chk (by decide) ?_
    exact ok_ret ⟨hI_Ic1, hA_Ac1, (show (0 : Int) ≤ (0 : Int32).toInt ∧ (0 : Int32).toInt ≤ (1 : Int) from (by decide))⟩
theorem t_isSafe {I : Nat → Int32} {A : Nat → Nat → Int32} {x1 : Int32} (hI : TJ I) (hA : TK A) (r_x1 : (0 : Int) ≤ x1.toInt ∧ x1.toInt ≤ (24575 : Int)) (q0 : (I 29).toInt ≤ 1999) : ∃ r : Int32, f_isSafe x1 I A = some (r, (I, nA I A)) ∧ ((0 : Int) ≤ r.toInt ∧ r.toInt ≤ (1 : Int)) := by
  obtain ⟨⟨r, I', A'⟩, h, -, -, p⟩ := t_isSafe_0 hI hA r_x1 q0
  have h' : f0_isSafe x1 I A = some (r, (I', A')) := h
  refine ⟨r, ?_, p⟩
  show m_cl (f0_isSafe x1 I A) _ = _
  rw [h']
  rfl
end
