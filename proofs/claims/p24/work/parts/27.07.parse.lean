section
theorem ti_ne0 {v : Int32} (h : v.toInt ≠ 0) : ¬ v = 0 := fun e => h (by rw [e]; rfl)
noncomputable def cE (A : Nat → Nat → Int32) (i : Nat) (v : Int) : Prop := (A 18 i).toInt = v
theorem cE_fr {A A' : Nat → Nat → Int32} {i : Nat} {v : Int} (e : A' 18 = A 18) (h : cE A i v) : cE A' i v := by
  unfold cE; rw [e]; exact h
noncomputable def m3 (A : Nat → Nat → Int32) (g k : Int) : Prop := (A 12 (301 * g + k).toNat).toInt ≤ 3
theorem m3_fr {A A' : Nat → Nat → Int32} {g k : Int} (e : A' 12 = A 12) (h : m3 A g k) : m3 A' g k := by
  unfold m3; rw [e]; exact h
theorem t_look_0  {I : Nat → Int32} {A : Nat → Nat → Int32} (hI : TJ I) (hA : TK A) : Ok (f_look_0 I A) (fun o => o.2 = (I, A) ∧ ((0 : Int) ≤ o.1.toInt ∧ o.1.toInt ≤ (65535 : Int)) ∧ ((0 < o.1.toInt → (I 37).toInt < (I 1).toInt))) := by
  unfold f_look_0
  have b_I_1 := tI_1 hI
  have b_I_37 := tI_37 hI
  refine ok_if (fun c1 => ?_) (fun c1 => ?_)
  ·
    replace c1 := ti_leP c1 rfl rfl
    unfold f_look_24
    refine ok_chk (by decide) ?_
    exact ok_ret ⟨rfl, (show (0 : Int) ≤ (0 : Int32).toInt ∧ (0 : Int32).toInt ≤ (65535 : Int) from (by decide)), (by show (0 < (0 : Int32).toInt → (I 37).toInt < (I 1).toInt); have z : (0 : Int32).toInt = 0 := rfl; omega)⟩
  ·
    replace c1 := ti_leN c1 rfl rfl
    refine ok_chk (ti_in (by omega) (by omega)) ?_
    refine ok_bnd (fun v1 e2 => ?_)
    have b_v1 := tA_2 hA (((I 37)).toNatClampNeg)
    rw [← e2] at b_v1
    unfold f_look_24
    refine ok_chk (nar_c (by omega) (by omega)) ?_
    exact ok_ret ⟨rfl, (show (0 : Int) ≤ v1.toInt ∧ v1.toInt ≤ (65535 : Int) from (by omega)), (by show (0 < (v1 : Int32).toInt → (I 37).toInt < (I 1).toInt); omega)⟩
theorem t_look  {I : Nat → Int32} {A : Nat → Nat → Int32}  (hI : TJ I) (hA : TK A) : Ok (f_look  I A) (fun o => o.2 = (I, A) ∧ ((0 : Int) ≤ o.1.toInt ∧ o.1.toInt ≤ (65535 : Int)) ∧ ((0 < o.1.toInt → (I 37).toInt < (I 1).toInt))) := t_look_0  hI hA 
theorem t_blanks_0s {aa bb : Int} {I : Nat → Int32} {A : Nat → Nat → Int32} {self0 : (Nat → Int32) → (Nat → Nat → Int32) → Option (Int32 × MS)} {N0 : Nat} (hself0 : ∀  (I : Nat → Int32) (A : Nat → Nat → Int32), TJ I → TK A → (aa ≤ (I 37).toInt ∧ (I 37).toInt ≤ bb ∧ (I 1).toInt ≤ bb) → (2101 - (I 37).toInt) < (N0 : Int) → Ok (self0  I A) (fun o => TJ o.2.1 ∧ TK o.2.2 ∧ (aa ≤ (o.2.1 37).toInt ∧ (o.2.1 37).toInt ≤ bb))) (hI : TJ I) (hA : TK A) (q0 : aa ≤ (I 37).toInt ∧ (I 37).toInt ≤ bb ∧ (I 1).toInt ≤ bb) (m0 : (2101 - (I 37).toInt) ≤ (N0 : Int)) : Ok (f_blanks_0s self0 I A) (fun o => TJ o.2.1 ∧ TK o.2.2 ∧ (aa ≤ (o.2.1 37).toInt ∧ (o.2.1 37).toInt ≤ bb)) := by
  unfold f_blanks_0s
  have b_I_1 := tI_1 hI
  have b_I_37 := tI_37 hI
  refine ok_if (fun c3 => ?_) (fun c3 => ?_)
  ·
    replace c3 := ti_leP c3 rfl rfl
    unfold f_blanks_52
    exact ok_ret ⟨hI, hA, (by show aa ≤ (I 37).toInt ∧ (I 37).toInt ≤ bb; have z : (0 : Int32).toInt = 0 := rfl; omega)⟩
  ·
    replace c3 := ti_leN c3 rfl rfl
    refine ok_chk (ti_in (by omega) (by omega)) ?_
    refine ok_bnd (fun v1 e4 => ?_)
    have b_v1 := tA_2 hA (((I 37)).toNatClampNeg)
    rw [← e4] at b_v1
    refine ok_if (fun c5 => ?_) (fun c5 => ?_)
    ·
      replace c5 := ti_eqP c5 rfl (show (32 : Int32).toInt = 32 from rfl)
      unfold f_blanks_39
      refine ok_bnd (fun v1 e6 => ?_)
      have t_v1 : v1.toInt = (I 37).toInt + 1 := ti_add e6 rfl (show (1 : Int32).toInt = 1 from rfl) (by omega) (by omega)
      refine ok_bnd (fun I2 e7 => ?_)
      have hI_I2 : TJ I2 := e7.symm ▸ tj_u hI (k := 37) (show (0 : Int) ≤ v1.toInt from (by omega)) (show v1.toInt ≤ (2100 : Int) from (by omega))
      have : (I2 1).toInt = (I 1).toInt := by rw [e7]; rfl
      have : (I2 37).toInt = v1.toInt := by rw [e7]; exact rfl
      have b_I2_1 := tI_1 hI_I2
      have b_I2_37 := tI_37 hI_I2
      exact hself0 I2 A hI_I2 hA (by omega) (by omega)
    ·
      replace c5 := ti_eqN c5 rfl (show (32 : Int32).toInt = 32 from rfl)
      refine ok_chk (ti_in (by omega) (by omega)) ?_
      refine ok_bnd (fun v2 e8 => ?_)
      have b_v2 := tA_2 hA (((I 37)).toNatClampNeg)
      rw [← e8] at b_v2
      refine ok_if (fun c9 => ?_) (fun c9 => ?_)
      ·
        replace c9 := ti_eqP c9 rfl (show (10 : Int32).toInt = 10 from rfl)
        unfold f_blanks_39
        refine ok_bnd (fun v1 e10 => ?_)
        have t_v1 : v1.toInt = (I 37).toInt + 1 := ti_add e10 rfl (show (1 : Int32).toInt = 1 from rfl) (by omega) (by omega)
        refine ok_bnd (fun I2 e11 => ?_)
        have hI_I2 : TJ I2 := e11.symm ▸ tj_u hI (k := 37) (show (0 : Int) ≤ v1.toInt from (by omega)) (show v1.toInt ≤ (2100 : Int) from (by omega))
        have : (I2 1).toInt = (I 1).toInt := by rw [e11]; rfl
        have : (I2 37).toInt = v1.toInt := by rw [e11]; exact rfl
        have b_I2_1 := tI_1 hI_I2
        have b_I2_37 := tI_37 hI_I2
        exact hself0 I2 A hI_I2 hA (by omega) (by omega)
      ·
        replace c9 := ti_eqN c9 rfl (show (10 : Int32).toInt = 10 from rfl)
        unfold f_blanks_52
        exact ok_ret ⟨hI, hA, (by show aa ≤ (I 37).toInt ∧ (I 37).toInt ≤ bb; have z : (0 : Int32).toInt = 0 := rfl; omega)⟩
theorem t_blanks_0 {aa bb : Int}  : ∀ (n : Nat)  (I : Nat → Int32) (A : Nat → Nat → Int32), TJ I → TK A → (aa ≤ (I 37).toInt ∧ (I 37).toInt ≤ bb ∧ (I 1).toInt ≤ bb) → (2101 - (I 37).toInt) < (n : Int) → Ok (f_blanks_0  n  I A) (fun o => TJ o.2.1 ∧ TK o.2.2 ∧ (aa ≤ (o.2.1 37).toInt ∧ (o.2.1 37).toInt ≤ bb)) := by
  intro n
  induction n with
  | zero => intro  I A hI hA g0  hm; exfalso; have := tI_37 hI; omega
  | succ n ih =>
    intro  I A hI hA g0  hm
    exact t_blanks_0s (aa := aa) (bb := bb)  (N0 := n)  ih hI hA g0  (by omega)
theorem t_blanks {aa bb : Int} {I : Nat → Int32} {A : Nat → Nat → Int32}  (hI : TJ I) (hA : TK A) (q0 : aa ≤ (I 37).toInt ∧ (I 37).toInt ≤ bb ∧ (I 1).toInt ≤ bb) : Ok (f_blanks  I A) (fun o => TJ o.2.1 ∧ TK o.2.2 ∧ (aa ≤ (o.2.1 37).toInt ∧ (o.2.1 37).toInt ≤ bb)) := t_blanks_0 mFuel  I A hI hA q0 (by have := tI_37 hI; show _ < ((200000 : Nat) : Int); omega)
theorem t_fault_0  {I : Nat → Int32} {A : Nat → Nat → Int32} {x0 : Int32} {x1 : Int32} (hI : TJ I) (hA : TK A) (r_x0 : (1 : Int) ≤ x0.toInt ∧ x0.toInt ≤ (9 : Int)) (r_x1 : (0 : Int) ≤ x1.toInt ∧ x1.toInt ≤ (2100 : Int)) : Ok (f_fault_0 x0 x1 I A) (fun o => o.2 = (I, A) ∧ ((10000 : Int) ≤ o.1.toInt ∧ o.1.toInt ≤ (92100 : Int))) := by
  unfold f_fault_0
  refine ok_bnd (fun v1 e12 => ?_)
  have t_v1 : v1.toInt = 10000 * x0.toInt := ti_mul e12 (show (10000 : Int32).toInt = 10000 from rfl) rfl (by omega) (by omega)
  refine ok_bnd (fun v2 e13 => ?_)
  have t_v2 : v2.toInt = v1.toInt + x1.toInt := ti_add e13 rfl rfl (by omega) (by omega)
  exact ok_ret ⟨rfl, (show (10000 : Int) ≤ v2.toInt ∧ v2.toInt ≤ (92100 : Int) from (by omega))⟩
theorem t_fault  {I : Nat → Int32} {A : Nat → Nat → Int32} {x0 : Int32} {x1 : Int32} (hI : TJ I) (hA : TK A) (r_x0 : (1 : Int) ≤ x0.toInt ∧ x0.toInt ≤ (9 : Int)) (r_x1 : (0 : Int) ≤ x1.toInt ∧ x1.toInt ≤ (2100 : Int)) : Ok (f_fault x0 x1 I A) (fun o => o.2 = (I, A) ∧ ((10000 : Int) ≤ o.1.toInt ∧ o.1.toInt ≤ (92100 : Int))) := t_fault_0  hI hA r_x0 r_x1
theorem t_isLetter_0  {I : Nat → Int32} {A : Nat → Nat → Int32} {x0 : Int32} (hI : TJ I) (hA : TK A) : Ok (f_isLetter_0 x0 I A) (fun o => o.2 = (I, A) ∧ ((0 : Int) ≤ o.1.toInt ∧ o.1.toInt ≤ (1 : Int)) ∧ ((o.1.toInt = 1 → 65 ≤ x0.toInt))) := by
  unfold f_isLetter_0
  refine ok_if (fun c14 => ?_) (fun c14 => ?_)
  ·
    replace c14 := ti_ltP c14 rfl (show (97 : Int32).toInt = 97 from rfl)
    unfold f_isLetter_12
    refine ok_if (fun c15 => ?_) (fun c15 => ?_)
    ·
      replace c15 := ti_ltP c15 rfl (show (65 : Int32).toInt = 65 from rfl)
      unfold f_isLetter_28
      unfold f_isLetter_29
      refine ok_chk (by decide) ?_
      exact ok_ret ⟨rfl, (show (0 : Int) ≤ (0 : Int32).toInt ∧ (0 : Int32).toInt ≤ (1 : Int) from (by decide)), (by show ((0 : Int32).toInt = 1 → 65 ≤ x0.toInt); exact fun h => absurd h (by decide))⟩
    ·
      replace c15 := ti_ltN c15 rfl (show (65 : Int32).toInt = 65 from rfl)
      refine ok_if (fun c16 => ?_) (fun c16 => ?_)
      ·
        replace c16 := ti_ltP c16 (show (90 : Int32).toInt = 90 from rfl) rfl
        unfold f_isLetter_28
        unfold f_isLetter_29
        refine ok_chk (by decide) ?_
        exact ok_ret ⟨rfl, (show (0 : Int) ≤ (0 : Int32).toInt ∧ (0 : Int32).toInt ≤ (1 : Int) from (by decide)), (by show ((0 : Int32).toInt = 1 → 65 ≤ x0.toInt); exact fun h => absurd h (by decide))⟩
      ·
        replace c16 := ti_ltN c16 (show (90 : Int32).toInt = 90 from rfl) rfl
        unfold f_isLetter_24
        unfold f_isLetter_29
        refine ok_chk (by decide) ?_
        exact ok_ret ⟨rfl, (show (0 : Int) ≤ (1 : Int32).toInt ∧ (1 : Int32).toInt ≤ (1 : Int) from (by decide)), (by show ((1 : Int32).toInt = 1 → 65 ≤ x0.toInt); omega)⟩
  ·
    replace c14 := ti_ltN c14 rfl (show (97 : Int32).toInt = 97 from rfl)
    refine ok_if (fun c17 => ?_) (fun c17 => ?_)
    ·
      replace c17 := ti_leP c17 rfl (show (122 : Int32).toInt = 122 from rfl)
      unfold f_isLetter_24
      unfold f_isLetter_29
      refine ok_chk (by decide) ?_
      exact ok_ret ⟨rfl, (show (0 : Int) ≤ (1 : Int32).toInt ∧ (1 : Int32).toInt ≤ (1 : Int) from (by decide)), (by show ((1 : Int32).toInt = 1 → 65 ≤ x0.toInt); omega)⟩
    ·
      replace c17 := ti_leN c17 rfl (show (122 : Int32).toInt = 122 from rfl)
      unfold f_isLetter_12
      refine ok_if (fun c18 => ?_) (fun c18 => ?_)
      ·
        replace c18 := ti_ltP c18 rfl (show (65 : Int32).toInt = 65 from rfl)
        unfold f_isLetter_28
        unfold f_isLetter_29
        refine ok_chk (by decide) ?_
        exact ok_ret ⟨rfl, (show (0 : Int) ≤ (0 : Int32).toInt ∧ (0 : Int32).toInt ≤ (1 : Int) from (by decide)), (by show ((0 : Int32).toInt = 1 → 65 ≤ x0.toInt); exact fun h => absurd h (by decide))⟩
      ·
        replace c18 := ti_ltN c18 rfl (show (65 : Int32).toInt = 65 from rfl)
        refine ok_if (fun c19 => ?_) (fun c19 => ?_)
        ·
          replace c19 := ti_ltP c19 (show (90 : Int32).toInt = 90 from rfl) rfl
          unfold f_isLetter_28
          unfold f_isLetter_29
          refine ok_chk (by decide) ?_
          exact ok_ret ⟨rfl, (show (0 : Int) ≤ (0 : Int32).toInt ∧ (0 : Int32).toInt ≤ (1 : Int) from (by decide)), (by show ((0 : Int32).toInt = 1 → 65 ≤ x0.toInt); exact fun h => absurd h (by decide))⟩
        ·
          replace c19 := ti_ltN c19 (show (90 : Int32).toInt = 90 from rfl) rfl
          unfold f_isLetter_24
          unfold f_isLetter_29
          refine ok_chk (by decide) ?_
          exact ok_ret ⟨rfl, (show (0 : Int) ≤ (1 : Int32).toInt ∧ (1 : Int32).toInt ≤ (1 : Int) from (by decide)), (by show ((1 : Int32).toInt = 1 → 65 ≤ x0.toInt); omega)⟩
theorem t_isLetter  {I : Nat → Int32} {A : Nat → Nat → Int32} {x0 : Int32} (hI : TJ I) (hA : TK A) : Ok (f_isLetter x0 I A) (fun o => o.2 = (I, A) ∧ ((0 : Int) ≤ o.1.toInt ∧ o.1.toInt ≤ (1 : Int)) ∧ ((o.1.toInt = 1 → 65 ≤ x0.toInt))) := t_isLetter_0  hI hA 
theorem t_isDigit_0  {I : Nat → Int32} {A : Nat → Nat → Int32} {x0 : Int32} (hI : TJ I) (hA : TK A) : Ok (f_isDigit_0 x0 I A) (fun o => o.2 = (I, A) ∧ ((0 : Int) ≤ o.1.toInt ∧ o.1.toInt ≤ (1 : Int)) ∧ ((o.1.toInt = 1 → 48 ≤ x0.toInt ∧ x0.toInt ≤ 57))) := by
  unfold f_isDigit_0
  refine ok_if (fun c20 => ?_) (fun c20 => ?_)
  ·
    replace c20 := ti_ltP c20 rfl (show (48 : Int32).toInt = 48 from rfl)
    unfold f_isDigit_16
    unfold f_isDigit_17
    refine ok_chk (by decide) ?_
    exact ok_ret ⟨rfl, (show (0 : Int) ≤ (0 : Int32).toInt ∧ (0 : Int32).toInt ≤ (1 : Int) from (by decide)), (by show ((0 : Int32).toInt = 1 → 48 ≤ x0.toInt ∧ x0.toInt ≤ 57); exact fun h => absurd h (by decide))⟩
  ·
    replace c20 := ti_ltN c20 rfl (show (48 : Int32).toInt = 48 from rfl)
    refine ok_if (fun c21 => ?_) (fun c21 => ?_)
    ·
      replace c21 := ti_ltP c21 (show (57 : Int32).toInt = 57 from rfl) rfl
      unfold f_isDigit_16
      unfold f_isDigit_17
      refine ok_chk (by decide) ?_
      exact ok_ret ⟨rfl, (show (0 : Int) ≤ (0 : Int32).toInt ∧ (0 : Int32).toInt ≤ (1 : Int) from (by decide)), (by show ((0 : Int32).toInt = 1 → 48 ≤ x0.toInt ∧ x0.toInt ≤ 57); exact fun h => absurd h (by decide))⟩
    ·
      replace c21 := ti_ltN c21 (show (57 : Int32).toInt = 57 from rfl) rfl
      unfold f_isDigit_17
      refine ok_chk (by decide) ?_
      exact ok_ret ⟨rfl, (show (0 : Int) ≤ (1 : Int32).toInt ∧ (1 : Int32).toInt ≤ (1 : Int) from (by decide)), (by show ((1 : Int32).toInt = 1 → 48 ≤ x0.toInt ∧ x0.toInt ≤ 57); omega)⟩
theorem t_isDigit  {I : Nat → Int32} {A : Nat → Nat → Int32} {x0 : Int32} (hI : TJ I) (hA : TK A) : Ok (f_isDigit x0 I A) (fun o => o.2 = (I, A) ∧ ((0 : Int) ≤ o.1.toInt ∧ o.1.toInt ≤ (1 : Int)) ∧ ((o.1.toInt = 1 → 48 ≤ x0.toInt ∧ x0.toInt ≤ 57))) := t_isDigit_0  hI hA 
theorem t_isTag_165  {I : Nat → Int32} {A : Nat → Nat → Int32} {self38 : Int32 → Int32 → Int32 → Int32 → Int32 → Int32 → (Nat → Int32) → (Nat → Nat → Int32) → Option (Int32 × MS)} {N38 : Nat} (hself38 : ∀ (x1 : Int32) (x2 : Int32) (x3 : Int32) (x4 : Int32) (x5 : Int32) (x6 : Int32),  ((0 : Int) ≤ x1.toInt ∧ x1.toInt ≤ (7 : Int)) → ((0 : Int) ≤ x2.toInt ∧ x2.toInt ≤ (1 : Int)) → ((0 : Int) ≤ x3.toInt ∧ x3.toInt ≤ (1 : Int)) → ((3 : Int) ≤ x4.toInt ∧ x4.toInt ≤ (6 : Int)) → ((0 : Int) ≤ x5.toInt ∧ x5.toInt ≤ (1 : Int)) → ((0 : Int) ≤ x6.toInt ∧ x6.toInt ≤ (6 : Int)) → (7 - x6.toInt) < (N38 : Int) → Ok (self38 x1 x2 x3 x4 x5 x6 I A) (fun o => o.2 = (I, A) ∧ ((0 : Int) ≤ o.1.toInt ∧ o.1.toInt ≤ (1 : Int)))) {x1 : Int32} {x2 : Int32} {x3 : Int32} {x4 : Int32} {x6 : Int32} {t0 : Int32} (hI : TJ I) (hA : TK A) (r_x1 : (0 : Int) ≤ x1.toInt ∧ x1.toInt ≤ (7 : Int)) (r_x2 : (0 : Int) ≤ x2.toInt ∧ x2.toInt ≤ (1 : Int)) (r_x3 : (0 : Int) ≤ x3.toInt ∧ x3.toInt ≤ (1 : Int)) (r_x4 : (3 : Int) ≤ x4.toInt ∧ x4.toInt ≤ (6 : Int)) (r_x6 : (0 : Int) ≤ x6.toInt ∧ x6.toInt ≤ (5 : Int)) (r_t0 : (0 : Int) ≤ t0.toInt ∧ t0.toInt ≤ (1 : Int)) (m38 : (7 - x6.toInt) ≤ (N38 : Int)) : Ok (f_isTag_165 self38 x1 x2 x3 x4 x6 t0 I A) (fun o => o.2 = (I, A) ∧ ((0 : Int) ≤ o.1.toInt ∧ o.1.toInt ≤ (1 : Int))) := by
  unfold f_isTag_165
  refine ok_bnd (fun v1 e22 => ?_)
  have t_v1 : v1.toInt = x6.toInt + 1 := ti_add e22 rfl (show (1 : Int32).toInt = 1 from rfl) (by omega) (by omega)
  exact hself38 x1 x2 x3 x4 t0 v1 r_x1 r_x2 r_x3 r_x4 r_t0 (by omega) (by omega)
theorem t_isTag_136  {I : Nat → Int32} {A : Nat → Nat → Int32} {self38 : Int32 → Int32 → Int32 → Int32 → Int32 → Int32 → (Nat → Int32) → (Nat → Nat → Int32) → Option (Int32 × MS)} {N38 : Nat} (hself38 : ∀ (x1 : Int32) (x2 : Int32) (x3 : Int32) (x4 : Int32) (x5 : Int32) (x6 : Int32),  ((0 : Int) ≤ x1.toInt ∧ x1.toInt ≤ (7 : Int)) → ((0 : Int) ≤ x2.toInt ∧ x2.toInt ≤ (1 : Int)) → ((0 : Int) ≤ x3.toInt ∧ x3.toInt ≤ (1 : Int)) → ((3 : Int) ≤ x4.toInt ∧ x4.toInt ≤ (6 : Int)) → ((0 : Int) ≤ x5.toInt ∧ x5.toInt ≤ (1 : Int)) → ((0 : Int) ≤ x6.toInt ∧ x6.toInt ≤ (6 : Int)) → (7 - x6.toInt) < (N38 : Int) → Ok (self38 x1 x2 x3 x4 x5 x6 I A) (fun o => o.2 = (I, A) ∧ ((0 : Int) ≤ o.1.toInt ∧ o.1.toInt ≤ (1 : Int)))) {x1 : Int32} {x2 : Int32} {x3 : Int32} {x4 : Int32} {x6 : Int32} {t0 : Int32} (hI : TJ I) (hA : TK A) (r_x1 : (0 : Int) ≤ x1.toInt ∧ x1.toInt ≤ (7 : Int)) (r_x2 : (0 : Int) ≤ x2.toInt ∧ x2.toInt ≤ (1 : Int)) (r_x3 : (0 : Int) ≤ x3.toInt ∧ x3.toInt ≤ (1 : Int)) (r_x4 : (3 : Int) ≤ x4.toInt ∧ x4.toInt ≤ (6 : Int)) (r_x6 : (0 : Int) ≤ x6.toInt ∧ x6.toInt ≤ (5 : Int)) (m38 : (7 - x6.toInt) ≤ (N38 : Int)) : Ok (f_isTag_136 self38 x1 x2 x3 x4 x6 t0 I A) (fun o => o.2 = (I, A) ∧ ((0 : Int) ≤ o.1.toInt ∧ o.1.toInt ≤ (1 : Int))) := by
  unfold f_isTag_136
  refine ok_bnd (fun v1 e23 => ?_)
  have t_v1 : v1.toInt = 96 * x2.toInt := ti_mul e23 (show (96 : Int32).toInt = 96 from rfl) rfl (by omega) (by omega)
  refine ok_bnd (fun v2 e24 => ?_)
  have t_v2 : v2.toInt = 12 * x1.toInt := ti_mul e24 (show (12 : Int32).toInt = 12 from rfl) rfl (by omega) (by omega)
  refine ok_bnd (fun v3 e25 => ?_)
  have t_v3 : v3.toInt = v1.toInt + v2.toInt := ti_add e25 rfl rfl (by omega) (by omega)
  refine ok_bnd (fun v4 e26 => ?_)
  have t_v4 : v4.toInt = v3.toInt + x6.toInt := ti_add e26 rfl rfl (by omega) (by omega)
  refine ok_chk (ti_in (by omega) (by omega)) ?_
  refine ok_bnd (fun v5 e27 => ?_)
  have b_v5 := tA_20 hA ((v4).toNatClampNeg)
  rw [← e27] at b_v5
  refine ok_if (fun c28 => ?_) (fun c28 => ?_)
  ·
    replace c28 := ti_eqP c28 rfl rfl
    exact t_isTag_165   hself38 (x1 := x1) (x2 := x2) (x3 := x3) (x4 := x4) (x6 := x6) (t0 := (1 : Int32)) hI hA r_x1 r_x2 r_x3 r_x4 r_x6 (by decide) m38
  ·
    replace c28 := ti_eqN c28 rfl rfl
    exact t_isTag_165   hself38 (x1 := x1) (x2 := x2) (x3 := x3) (x4 := x4) (x6 := x6) (t0 := (0 : Int32)) hI hA r_x1 r_x2 r_x3 r_x4 r_x6 (by decide) m38
theorem t_isTag_38s  {I : Nat → Int32} {A : Nat → Nat → Int32} {self38 : Int32 → Int32 → Int32 → Int32 → Int32 → Int32 → (Nat → Int32) → (Nat → Nat → Int32) → Option (Int32 × MS)} {N38 : Nat} (hself38 : ∀ (x1 : Int32) (x2 : Int32) (x3 : Int32) (x4 : Int32) (x5 : Int32) (x6 : Int32),  ((0 : Int) ≤ x1.toInt ∧ x1.toInt ≤ (7 : Int)) → ((0 : Int) ≤ x2.toInt ∧ x2.toInt ≤ (1 : Int)) → ((0 : Int) ≤ x3.toInt ∧ x3.toInt ≤ (1 : Int)) → ((3 : Int) ≤ x4.toInt ∧ x4.toInt ≤ (6 : Int)) → ((0 : Int) ≤ x5.toInt ∧ x5.toInt ≤ (1 : Int)) → ((0 : Int) ≤ x6.toInt ∧ x6.toInt ≤ (6 : Int)) → (7 - x6.toInt) < (N38 : Int) → Ok (self38 x1 x2 x3 x4 x5 x6 I A) (fun o => o.2 = (I, A) ∧ ((0 : Int) ≤ o.1.toInt ∧ o.1.toInt ≤ (1 : Int)))) {x1 : Int32} {x2 : Int32} {x3 : Int32} {x4 : Int32} {x5 : Int32} {x6 : Int32} (hI : TJ I) (hA : TK A) (r_x1 : (0 : Int) ≤ x1.toInt ∧ x1.toInt ≤ (7 : Int)) (r_x2 : (0 : Int) ≤ x2.toInt ∧ x2.toInt ≤ (1 : Int)) (r_x3 : (0 : Int) ≤ x3.toInt ∧ x3.toInt ≤ (1 : Int)) (r_x4 : (3 : Int) ≤ x4.toInt ∧ x4.toInt ≤ (6 : Int)) (r_x5 : (0 : Int) ≤ x5.toInt ∧ x5.toInt ≤ (1 : Int)) (r_x6 : (0 : Int) ≤ x6.toInt ∧ x6.toInt ≤ (6 : Int)) (m38 : (7 - x6.toInt) ≤ (N38 : Int)) : Ok (f_isTag_38s self38 x1 x2 x3 x4 x5 x6 I A) (fun o => o.2 = (I, A) ∧ ((0 : Int) ≤ o.1.toInt ∧ o.1.toInt ≤ (1 : Int))) := by
  unfold f_isTag_38s
  refine ok_if (fun c29 => ?_) (fun c29 => ?_)
  ·
    replace c29 := ti_leP c29 rfl rfl
    unfold f_isTag_173
    refine ok_chk (nar_b (by omega) (by omega)) ?_
    exact ok_ret ⟨rfl, (show (0 : Int) ≤ x5.toInt ∧ x5.toInt ≤ (1 : Int) from (by omega))⟩
  ·
    replace c29 := ti_leN c29 rfl rfl
    refine ok_if (fun c30 => ?_) (fun c30 => ?_)
    ·
      replace c30 := ti_eqP c30 rfl (show (0 : Int32).toInt = 0 from rfl)
      unfold f_isTag_173
      refine ok_chk (nar_b (by omega) (by omega)) ?_
      exact ok_ret ⟨rfl, (show (0 : Int) ≤ x5.toInt ∧ x5.toInt ≤ (1 : Int) from (by omega))⟩
    ·
      replace c30 := ti_eqN c30 rfl (show (0 : Int32).toInt = 0 from rfl)
      refine ok_if (fun c31 => ?_) (fun c31 => ?_)
      ·
        replace c31 := ti_eqP c31 rfl (show (0 : Int32).toInt = 0 from rfl)
        refine ok_if (fun c32 => ?_) (fun c32 => ?_)
        ·
          replace c32 := ti_eqP c32 rfl (show (0 : Int32).toInt = 0 from rfl)
          exact t_isTag_136   hself38 (x1 := x1) (x2 := x2) (x3 := x3) (x4 := x4) (x6 := x6) (t0 := (70 : Int32)) hI hA r_x1 r_x2 r_x3 r_x4 (by omega) m38
        ·
          replace c32 := ti_eqN c32 rfl (show (0 : Int32).toInt = 0 from rfl)
          refine ok_if (fun c33 => ?_) (fun c33 => ?_)
          ·
            replace c33 := ti_eqP c33 rfl (show (1 : Int32).toInt = 1 from rfl)
            exact t_isTag_136   hself38 (x1 := x1) (x2 := x2) (x3 := x3) (x4 := x4) (x6 := x6) (t0 := (69 : Int32)) hI hA r_x1 r_x2 r_x3 r_x4 (by omega) m38
          ·
            replace c33 := ti_eqN c33 rfl (show (1 : Int32).toInt = 1 from rfl)
            exact t_isTag_136   hself38 (x1 := x1) (x2 := x2) (x3 := x3) (x4 := x4) (x6 := x6) (t0 := (78 : Int32)) hI hA r_x1 r_x2 r_x3 r_x4 (by omega) m38
      ·
        replace c31 := ti_eqN c31 rfl (show (0 : Int32).toInt = 0 from rfl)
        refine ok_if (fun c34 => ?_) (fun c34 => ?_)
        ·
          replace c34 := ti_eqP c34 rfl (show (0 : Int32).toInt = 0 from rfl)
          exact t_isTag_136   hself38 (x1 := x1) (x2 := x2) (x3 := x3) (x4 := x4) (x6 := x6) (t0 := (82 : Int32)) hI hA r_x1 r_x2 r_x3 r_x4 (by omega) m38
        ·
          replace c34 := ti_eqN c34 rfl (show (0 : Int32).toInt = 0 from rfl)
          refine ok_if (fun c35 => ?_) (fun c35 => ?_)
          ·
            replace c35 := ti_eqP c35 rfl (show (1 : Int32).toInt = 1 from rfl)
            exact t_isTag_136   hself38 (x1 := x1) (x2 := x2) (x3 := x3) (x4 := x4) (x6 := x6) (t0 := (101 : Int32)) hI hA r_x1 r_x2 r_x3 r_x4 (by omega) m38
          ·
            replace c35 := ti_eqN c35 rfl (show (1 : Int32).toInt = 1 from rfl)
            refine ok_if (fun c36 => ?_) (fun c36 => ?_)
            ·
              replace c36 := ti_eqP c36 rfl (show (2 : Int32).toInt = 2 from rfl)
              exact t_isTag_136   hself38 (x1 := x1) (x2 := x2) (x3 := x3) (x4 := x4) (x6 := x6) (t0 := (115 : Int32)) hI hA r_x1 r_x2 r_x3 r_x4 (by omega) m38
            ·
              replace c36 := ti_eqN c36 rfl (show (2 : Int32).toInt = 2 from rfl)
              refine ok_if (fun c37 => ?_) (fun c37 => ?_)
              ·
                replace c37 := ti_eqP c37 rfl (show (3 : Int32).toInt = 3 from rfl)
                exact t_isTag_136   hself38 (x1 := x1) (x2 := x2) (x3 := x3) (x4 := x4) (x6 := x6) (t0 := (117 : Int32)) hI hA r_x1 r_x2 r_x3 r_x4 (by omega) m38
              ·
                replace c37 := ti_eqN c37 rfl (show (3 : Int32).toInt = 3 from rfl)
                refine ok_if (fun c38 => ?_) (fun c38 => ?_)
                ·
                  replace c38 := ti_eqP c38 rfl (show (4 : Int32).toInt = 4 from rfl)
                  exact t_isTag_136   hself38 (x1 := x1) (x2 := x2) (x3 := x3) (x4 := x4) (x6 := x6) (t0 := (108 : Int32)) hI hA r_x1 r_x2 r_x3 r_x4 (by omega) m38
                ·
                  replace c38 := ti_eqN c38 rfl (show (4 : Int32).toInt = 4 from rfl)
                  exact t_isTag_136   hself38 (x1 := x1) (x2 := x2) (x3 := x3) (x4 := x4) (x6 := x6) (t0 := (116 : Int32)) hI hA r_x1 r_x2 r_x3 r_x4 (by omega) m38
theorem t_isTag_38  {I : Nat → Int32} {A : Nat → Nat → Int32} (hI : TJ I) (hA : TK A) : ∀ (n : Nat) (x1 : Int32) (x2 : Int32) (x3 : Int32) (x4 : Int32) (x5 : Int32) (x6 : Int32),  ((0 : Int) ≤ x1.toInt ∧ x1.toInt ≤ (7 : Int)) → ((0 : Int) ≤ x2.toInt ∧ x2.toInt ≤ (1 : Int)) → ((0 : Int) ≤ x3.toInt ∧ x3.toInt ≤ (1 : Int)) → ((3 : Int) ≤ x4.toInt ∧ x4.toInt ≤ (6 : Int)) → ((0 : Int) ≤ x5.toInt ∧ x5.toInt ≤ (1 : Int)) → ((0 : Int) ≤ x6.toInt ∧ x6.toInt ≤ (6 : Int)) → (7 - x6.toInt) < (n : Int) → Ok (f_isTag_38  n x1 x2 x3 x4 x5 x6 I A) (fun o => o.2 = (I, A) ∧ ((0 : Int) ≤ o.1.toInt ∧ o.1.toInt ≤ (1 : Int))) := by
  intro n
  induction n with
  | zero => intro x1 x2 x3 x4 x5 x6 g0 g1 g2 g3 g4 g5  hm; exfalso; omega
  | succ n ih =>
    intro x1 x2 x3 x4 x5 x6 g0 g1 g2 g3 g4 g5  hm
    exact t_isTag_38s   (N38 := n)  ih hI hA g0 g1 g2 g3 g4 g5  (by omega)
theorem t_isTag_33  {I : Nat → Int32} {A : Nat → Nat → Int32} {x1 : Int32} {x2 : Int32} {x3 : Int32} {x4 : Int32} {t0 : Int32} (hI : TJ I) (hA : TK A) (r_x1 : (0 : Int) ≤ x1.toInt ∧ x1.toInt ≤ (7 : Int)) (r_x2 : (0 : Int) ≤ x2.toInt ∧ x2.toInt ≤ (1 : Int)) (r_x3 : (0 : Int) ≤ x3.toInt ∧ x3.toInt ≤ (1 : Int)) (r_x4 : (3 : Int) ≤ x4.toInt ∧ x4.toInt ≤ (6 : Int)) (r_t0 : (0 : Int) ≤ t0.toInt ∧ t0.toInt ≤ (1 : Int)) : Ok (f_isTag_33 x1 x2 x3 x4 t0 I A) (fun o => o.2 = (I, A) ∧ ((0 : Int) ≤ o.1.toInt ∧ o.1.toInt ≤ (1 : Int))) := by
  unfold f_isTag_33
  exact t_isTag_38    hI hA mFuel x1 x2 x3 x4 t0 (0 : Int32)  r_x1 r_x2 r_x3 r_x4 r_t0 (by decide) (by show _ < ((200000 : Nat) : Int); have z0 : (0 : Int32).toInt = 0 := rfl; omega)
theorem t_isTag_10  {I : Nat → Int32} {A : Nat → Nat → Int32} {x1 : Int32} {x2 : Int32} {x3 : Int32} {t0 : Int32} (hI : TJ I) (hA : TK A) (r_x1 : (0 : Int) ≤ x1.toInt ∧ x1.toInt ≤ (7 : Int)) (r_x2 : (0 : Int) ≤ x2.toInt ∧ x2.toInt ≤ (1 : Int)) (r_x3 : (0 : Int) ≤ x3.toInt ∧ x3.toInt ≤ (1 : Int)) (r_t0 : (3 : Int) ≤ t0.toInt ∧ t0.toInt ≤ (6 : Int)) : Ok (f_isTag_10 x1 x2 x3 t0 I A) (fun o => o.2 = (I, A) ∧ ((0 : Int) ≤ o.1.toInt ∧ o.1.toInt ≤ (1 : Int))) := by
  unfold f_isTag_10
  refine ok_bnd (fun v1 e39 => ?_)
  have t_v1 : v1.toInt = 8 * x2.toInt := ti_mul e39 (show (8 : Int32).toInt = 8 from rfl) rfl (by omega) (by omega)
  refine ok_bnd (fun v2 e40 => ?_)
  have t_v2 : v2.toInt = v1.toInt + x1.toInt := ti_add e40 rfl rfl (by omega) (by omega)
  refine ok_chk (ti_in (by omega) (by omega)) ?_
  refine ok_bnd (fun v3 e41 => ?_)
  have b_v3 := tA_19 hA ((v2).toNatClampNeg)
  rw [← e41] at b_v3
  refine ok_if (fun c42 => ?_) (fun c42 => ?_)
  ·
    replace c42 := ti_eqP c42 rfl rfl
    exact t_isTag_33    (x1 := x1) (x2 := x2) (x3 := x3) (x4 := t0) (t0 := (1 : Int32)) hI hA r_x1 r_x2 r_x3 r_t0 (by decide)
  ·
    replace c42 := ti_eqN c42 rfl rfl
    exact t_isTag_33    (x1 := x1) (x2 := x2) (x3 := x3) (x4 := t0) (t0 := (0 : Int32)) hI hA r_x1 r_x2 r_x3 r_t0 (by decide)
theorem t_isTag_0  {I : Nat → Int32} {A : Nat → Nat → Int32} {x1 : Int32} {x2 : Int32} {x3 : Int32} (hI : TJ I) (hA : TK A) (r_x1 : (0 : Int) ≤ x1.toInt ∧ x1.toInt ≤ (7 : Int)) (r_x2 : (0 : Int) ≤ x2.toInt ∧ x2.toInt ≤ (1 : Int)) (r_x3 : (0 : Int) ≤ x3.toInt ∧ x3.toInt ≤ (1 : Int)) : Ok (f_isTag_0 x1 x2 x3 I A) (fun o => o.2 = (I, A) ∧ ((0 : Int) ≤ o.1.toInt ∧ o.1.toInt ≤ (1 : Int))) := by
  unfold f_isTag_0
  refine ok_if (fun c43 => ?_) (fun c43 => ?_)
  ·
    replace c43 := ti_eqP c43 rfl (show (0 : Int32).toInt = 0 from rfl)
    exact t_isTag_10    (x1 := x1) (x2 := x2) (x3 := x3) (t0 := (3 : Int32)) hI hA r_x1 r_x2 r_x3 (by decide)
  ·
    replace c43 := ti_eqN c43 rfl (show (0 : Int32).toInt = 0 from rfl)
    exact t_isTag_10    (x1 := x1) (x2 := x2) (x3 := x3) (t0 := (6 : Int32)) hI hA r_x1 r_x2 r_x3 (by decide)
theorem t_isTag  {I : Nat → Int32} {A : Nat → Nat → Int32} {x1 : Int32} {x2 : Int32} {x3 : Int32} (hI : TJ I) (hA : TK A) (r_x1 : (0 : Int) ≤ x1.toInt ∧ x1.toInt ≤ (7 : Int)) (r_x2 : (0 : Int) ≤ x2.toInt ∧ x2.toInt ≤ (1 : Int)) (r_x3 : (0 : Int) ≤ x3.toInt ∧ x3.toInt ≤ (1 : Int)) : Ok (f_isTag x1 x2 x3 I A) (fun o => o.2 = (I, A) ∧ ((0 : Int) ≤ o.1.toInt ∧ o.1.toInt ≤ (1 : Int))) := t_isTag_0  hI hA r_x1 r_x2 r_x3
theorem t_isNameThere_133  {I : Nat → Int32} {A : Nat → Nat → Int32} {self5 : Int32 → Int32 → Int32 → Int32 → (Nat → Int32) → (Nat → Nat → Int32) → Option (Int32 × MS)} {N5 : Nat} (hself5 : ∀ (x1 : Int32) (x2 : Int32) (x3 : Int32) (x4 : Int32),  ((0 : Int) ≤ x1.toInt ∧ x1.toInt ≤ (1 : Int)) → ((0 : Int) ≤ x2.toInt ∧ x2.toInt ≤ (7 : Int)) → ((0 : Int) ≤ x3.toInt ∧ x3.toInt ≤ (1 : Int)) → ((0 : Int) ≤ x4.toInt ∧ x4.toInt ≤ (8 : Int)) → (9 - x4.toInt) < (N5 : Int) → Ok (self5 x1 x2 x3 x4 I A) (fun o => o.2 = (I, A) ∧ ((0 : Int) ≤ o.1.toInt ∧ o.1.toInt ≤ (1 : Int)))) {x1 : Int32} {x2 : Int32} {x4 : Int32} {t0 : Int32} (hI : TJ I) (hA : TK A) (r_x1 : (0 : Int) ≤ x1.toInt ∧ x1.toInt ≤ (1 : Int)) (r_x2 : (0 : Int) ≤ x2.toInt ∧ x2.toInt ≤ (7 : Int)) (r_x4 : (0 : Int) ≤ x4.toInt ∧ x4.toInt ≤ (7 : Int)) (r_t0 : (0 : Int) ≤ t0.toInt ∧ t0.toInt ≤ (1 : Int)) (m5 : (9 - x4.toInt) ≤ (N5 : Int)) : Ok (f_isNameThere_133 self5 x1 x2 x4 t0 I A) (fun o => o.2 = (I, A) ∧ ((0 : Int) ≤ o.1.toInt ∧ o.1.toInt ≤ (1 : Int))) := by
  unfold f_isNameThere_133
  refine ok_bnd (fun v1 e44 => ?_)
  have t_v1 : v1.toInt = x4.toInt + 1 := ti_add e44 rfl (show (1 : Int32).toInt = 1 from rfl) (by omega) (by omega)
  exact hself5 x1 x2 t0 v1 r_x1 r_x2 r_t0 (by omega) (by omega)
theorem t_isNameThere_119  {I : Nat → Int32} {A : Nat → Nat → Int32} {self5 : Int32 → Int32 → Int32 → Int32 → (Nat → Int32) → (Nat → Nat → Int32) → Option (Int32 × MS)} {N5 : Nat} (hself5 : ∀ (x1 : Int32) (x2 : Int32) (x3 : Int32) (x4 : Int32),  ((0 : Int) ≤ x1.toInt ∧ x1.toInt ≤ (1 : Int)) → ((0 : Int) ≤ x2.toInt ∧ x2.toInt ≤ (7 : Int)) → ((0 : Int) ≤ x3.toInt ∧ x3.toInt ≤ (1 : Int)) → ((0 : Int) ≤ x4.toInt ∧ x4.toInt ≤ (8 : Int)) → (9 - x4.toInt) < (N5 : Int) → Ok (self5 x1 x2 x3 x4 I A) (fun o => o.2 = (I, A) ∧ ((0 : Int) ≤ o.1.toInt ∧ o.1.toInt ≤ (1 : Int)))) {x1 : Int32} {x2 : Int32} {x3 : Int32} {x4 : Int32} {x5 : Int32} (hI : TJ I) (hA : TK A) (r_x1 : (0 : Int) ≤ x1.toInt ∧ x1.toInt ≤ (1 : Int)) (r_x2 : (0 : Int) ≤ x2.toInt ∧ x2.toInt ≤ (7 : Int)) (r_x3 : (0 : Int) ≤ x3.toInt ∧ x3.toInt ≤ (1 : Int)) (r_x4 : (0 : Int) ≤ x4.toInt ∧ x4.toInt ≤ (7 : Int)) (r_x5 : (0 : Int) ≤ x5.toInt ∧ x5.toInt ≤ (1 : Int)) (m5 : (9 - x4.toInt) ≤ (N5 : Int)) : Ok (f_isNameThere_119 self5 x1 x2 x3 x4 x5 I A) (fun o => o.2 = (I, A) ∧ ((0 : Int) ≤ o.1.toInt ∧ o.1.toInt ≤ (1 : Int))) := by
  unfold f_isNameThere_119
  refine ok_if (fun c45 => ?_) (fun c45 => ?_)
  ·
    replace c45 := ti_eqP c45 rfl (show (0 : Int32).toInt = 0 from rfl)
    refine ok_if (fun c46 => ?_) (fun c46 => ?_)
    ·
      replace c46 := ti_eqP c46 rfl (show (0 : Int32).toInt = 0 from rfl)
      exact t_isNameThere_133   hself5 (x1 := x1) (x2 := x2) (x4 := x4) (t0 := (0 : Int32)) hI hA r_x1 r_x2 r_x4 (by decide) m5
    ·
      replace c46 := ti_eqN c46 rfl (show (0 : Int32).toInt = 0 from rfl)
      unfold f_isNameThere_128
      exact t_isNameThere_133   hself5 (x1 := x1) (x2 := x2) (x4 := x4) (t0 := (1 : Int32)) hI hA r_x1 r_x2 r_x4 (by decide) m5
  ·
    replace c45 := ti_eqN c45 rfl (show (0 : Int32).toInt = 0 from rfl)
    unfold f_isNameThere_128
    exact t_isNameThere_133   hself5 (x1 := x1) (x2 := x2) (x4 := x4) (t0 := (1 : Int32)) hI hA r_x1 r_x2 r_x4 (by decide) m5
theorem t_isNameThere_111  {I : Nat → Int32} {A : Nat → Nat → Int32} {self5 : Int32 → Int32 → Int32 → Int32 → (Nat → Int32) → (Nat → Nat → Int32) → Option (Int32 × MS)} {N5 : Nat} (hself5 : ∀ (x1 : Int32) (x2 : Int32) (x3 : Int32) (x4 : Int32),  ((0 : Int) ≤ x1.toInt ∧ x1.toInt ≤ (1 : Int)) → ((0 : Int) ≤ x2.toInt ∧ x2.toInt ≤ (7 : Int)) → ((0 : Int) ≤ x3.toInt ∧ x3.toInt ≤ (1 : Int)) → ((0 : Int) ≤ x4.toInt ∧ x4.toInt ≤ (8 : Int)) → (9 - x4.toInt) < (N5 : Int) → Ok (self5 x1 x2 x3 x4 I A) (fun o => o.2 = (I, A) ∧ ((0 : Int) ≤ o.1.toInt ∧ o.1.toInt ≤ (1 : Int)))) {self47 : Int32 → Int32 → Int32 → Int32 → Int32 → Int32 → (Nat → Int32) → (Nat → Nat → Int32) → Option (Int32 × MS)} {N47 : Nat} (hself47 : ∀ (x1 : Int32) (x2 : Int32) (x3 : Int32) (x4 : Int32) (x5 : Int32) (x6 : Int32),  ((0 : Int) ≤ x1.toInt ∧ x1.toInt ≤ (1 : Int)) → ((0 : Int) ≤ x2.toInt ∧ x2.toInt ≤ (7 : Int)) → ((0 : Int) ≤ x3.toInt ∧ x3.toInt ≤ (1 : Int)) → ((0 : Int) ≤ x4.toInt ∧ x4.toInt ≤ (7 : Int)) → ((0 : Int) ≤ x5.toInt ∧ x5.toInt ≤ (1 : Int)) → ((0 : Int) ≤ x6.toInt ∧ x6.toInt ≤ (12 : Int)) → ((9 - x4.toInt) ≤ (N5 : Int)) → (13 - x6.toInt) < (N47 : Int) → Ok (self47 x1 x2 x3 x4 x5 x6 I A) (fun o => o.2 = (I, A) ∧ ((0 : Int) ≤ o.1.toInt ∧ o.1.toInt ≤ (1 : Int)))) {x1 : Int32} {x2 : Int32} {x3 : Int32} {x4 : Int32} {x6 : Int32} {t0 : Int32} (hI : TJ I) (hA : TK A) (r_x1 : (0 : Int) ≤ x1.toInt ∧ x1.toInt ≤ (1 : Int)) (r_x2 : (0 : Int) ≤ x2.toInt ∧ x2.toInt ≤ (7 : Int)) (r_x3 : (0 : Int) ≤ x3.toInt ∧ x3.toInt ≤ (1 : Int)) (r_x4 : (0 : Int) ≤ x4.toInt ∧ x4.toInt ≤ (7 : Int)) (r_x6 : (0 : Int) ≤ x6.toInt ∧ x6.toInt ≤ (11 : Int)) (r_t0 : (0 : Int) ≤ t0.toInt ∧ t0.toInt ≤ (1 : Int)) (m5 : (9 - x4.toInt) ≤ (N5 : Int)) (m47 : (13 - x6.toInt) ≤ (N47 : Int)) : Ok (f_isNameThere_111 self5 self47 x1 x2 x3 x4 x6 t0 I A) (fun o => o.2 = (I, A) ∧ ((0 : Int) ≤ o.1.toInt ∧ o.1.toInt ≤ (1 : Int))) := by
  unfold f_isNameThere_111
  refine ok_bnd (fun v1 e47 => ?_)
  have t_v1 : v1.toInt = x6.toInt + 1 := ti_add e47 rfl (show (1 : Int32).toInt = 1 from rfl) (by omega) (by omega)
  exact hself47 x1 x2 x3 x4 t0 v1 r_x1 r_x2 r_x3 r_x4 r_t0 (by omega) m5 (by omega)
theorem t_isNameThere_47s  {I : Nat → Int32} {A : Nat → Nat → Int32} {self5 : Int32 → Int32 → Int32 → Int32 → (Nat → Int32) → (Nat → Nat → Int32) → Option (Int32 × MS)} {N5 : Nat} (hself5 : ∀ (x1 : Int32) (x2 : Int32) (x3 : Int32) (x4 : Int32),  ((0 : Int) ≤ x1.toInt ∧ x1.toInt ≤ (1 : Int)) → ((0 : Int) ≤ x2.toInt ∧ x2.toInt ≤ (7 : Int)) → ((0 : Int) ≤ x3.toInt ∧ x3.toInt ≤ (1 : Int)) → ((0 : Int) ≤ x4.toInt ∧ x4.toInt ≤ (8 : Int)) → (9 - x4.toInt) < (N5 : Int) → Ok (self5 x1 x2 x3 x4 I A) (fun o => o.2 = (I, A) ∧ ((0 : Int) ≤ o.1.toInt ∧ o.1.toInt ≤ (1 : Int)))) {self47 : Int32 → Int32 → Int32 → Int32 → Int32 → Int32 → (Nat → Int32) → (Nat → Nat → Int32) → Option (Int32 × MS)} {N47 : Nat} (hself47 : ∀ (x1 : Int32) (x2 : Int32) (x3 : Int32) (x4 : Int32) (x5 : Int32) (x6 : Int32),  ((0 : Int) ≤ x1.toInt ∧ x1.toInt ≤ (1 : Int)) → ((0 : Int) ≤ x2.toInt ∧ x2.toInt ≤ (7 : Int)) → ((0 : Int) ≤ x3.toInt ∧ x3.toInt ≤ (1 : Int)) → ((0 : Int) ≤ x4.toInt ∧ x4.toInt ≤ (7 : Int)) → ((0 : Int) ≤ x5.toInt ∧ x5.toInt ≤ (1 : Int)) → ((0 : Int) ≤ x6.toInt ∧ x6.toInt ≤ (12 : Int)) → ((9 - x4.toInt) ≤ (N5 : Int)) → (13 - x6.toInt) < (N47 : Int) → Ok (self47 x1 x2 x3 x4 x5 x6 I A) (fun o => o.2 = (I, A) ∧ ((0 : Int) ≤ o.1.toInt ∧ o.1.toInt ≤ (1 : Int)))) {x1 : Int32} {x2 : Int32} {x3 : Int32} {x4 : Int32} {x5 : Int32} {x6 : Int32} (hI : TJ I) (hA : TK A) (r_x1 : (0 : Int) ≤ x1.toInt ∧ x1.toInt ≤ (1 : Int)) (r_x2 : (0 : Int) ≤ x2.toInt ∧ x2.toInt ≤ (7 : Int)) (r_x3 : (0 : Int) ≤ x3.toInt ∧ x3.toInt ≤ (1 : Int)) (r_x4 : (0 : Int) ≤ x4.toInt ∧ x4.toInt ≤ (7 : Int)) (r_x5 : (0 : Int) ≤ x5.toInt ∧ x5.toInt ≤ (1 : Int)) (r_x6 : (0 : Int) ≤ x6.toInt ∧ x6.toInt ≤ (12 : Int)) (m5 : (9 - x4.toInt) ≤ (N5 : Int)) (m47 : (13 - x6.toInt) ≤ (N47 : Int)) : Ok (f_isNameThere_47s self5 self47 x1 x2 x3 x4 x5 x6 I A) (fun o => o.2 = (I, A) ∧ ((0 : Int) ≤ o.1.toInt ∧ o.1.toInt ≤ (1 : Int))) := by
  unfold f_isNameThere_47s
  refine ok_bnd (fun v1 e48 => ?_)
  have t_v1 : v1.toInt = 8 * x1.toInt := ti_mul e48 (show (8 : Int32).toInt = 8 from rfl) rfl (by omega) (by omega)
  refine ok_bnd (fun v2 e49 => ?_)
  have t_v2 : v2.toInt = v1.toInt + x2.toInt := ti_add e49 rfl rfl (by omega) (by omega)
  refine ok_chk (ti_in (by omega) (by omega)) ?_
  refine ok_bnd (fun v3 e50 => ?_)
  have b_v3 := tA_19 hA ((v2).toNatClampNeg)
  rw [← e50] at b_v3
  refine ok_if (fun c51 => ?_) (fun c51 => ?_)
  ·
    replace c51 := ti_leP c51 rfl rfl
    exact t_isNameThere_119   hself5 (x1 := x1) (x2 := x2) (x3 := x3) (x4 := x4) (x5 := x5) hI hA r_x1 r_x2 r_x3 r_x4 r_x5 m5
  ·
    replace c51 := ti_leN c51 rfl rfl
    refine ok_if (fun c52 => ?_) (fun c52 => ?_)
    ·
      replace c52 := ti_eqP c52 rfl (show (0 : Int32).toInt = 0 from rfl)
      exact t_isNameThere_119   hself5 (x1 := x1) (x2 := x2) (x3 := x3) (x4 := x4) (x5 := x5) hI hA r_x1 r_x2 r_x3 r_x4 r_x5 m5
    ·
      replace c52 := ti_eqN c52 rfl (show (0 : Int32).toInt = 0 from rfl)
      refine ok_bnd (fun v4 e53 => ?_)
      have t_v4 : v4.toInt = 96 * x1.toInt := ti_mul e53 (show (96 : Int32).toInt = 96 from rfl) rfl (by omega) (by omega)
      refine ok_bnd (fun v5 e54 => ?_)
      have t_v5 : v5.toInt = 12 * x4.toInt := ti_mul e54 (show (12 : Int32).toInt = 12 from rfl) rfl (by omega) (by omega)
      refine ok_bnd (fun v6 e55 => ?_)
      have t_v6 : v6.toInt = v4.toInt + v5.toInt := ti_add e55 rfl rfl (by omega) (by omega)
      refine ok_bnd (fun v7 e56 => ?_)
      have t_v7 : v7.toInt = v6.toInt + x6.toInt := ti_add e56 rfl rfl (by omega) (by omega)
      refine ok_chk (ti_in (by omega) (by omega)) ?_
      refine ok_bnd (fun v8 e57 => ?_)
      have b_v8 := tA_20 hA ((v7).toNatClampNeg)
      rw [← e57] at b_v8
      refine ok_bnd (fun v9 e58 => ?_)
      have t_v9 : v9.toInt = 96 * x1.toInt := ti_mul e58 (show (96 : Int32).toInt = 96 from rfl) rfl (by omega) (by omega)
      refine ok_bnd (fun v10 e59 => ?_)
      have t_v10 : v10.toInt = 12 * x2.toInt := ti_mul e59 (show (12 : Int32).toInt = 12 from rfl) rfl (by omega) (by omega)
      refine ok_bnd (fun v11 e60 => ?_)
      have t_v11 : v11.toInt = v9.toInt + v10.toInt := ti_add e60 rfl rfl (by omega) (by omega)
      refine ok_bnd (fun v12 e61 => ?_)
      have t_v12 : v12.toInt = v11.toInt + x6.toInt := ti_add e61 rfl rfl (by omega) (by omega)
      refine ok_chk (ti_in (by omega) (by omega)) ?_
      refine ok_bnd (fun v13 e62 => ?_)
      have b_v13 := tA_20 hA ((v12).toNatClampNeg)
      rw [← e62] at b_v13
      refine ok_if (fun c63 => ?_) (fun c63 => ?_)
      ·
        replace c63 := ti_eqP c63 rfl rfl
        exact t_isNameThere_111   hself5 hself47 (x1 := x1) (x2 := x2) (x3 := x3) (x4 := x4) (x6 := x6) (t0 := (1 : Int32)) hI hA r_x1 r_x2 r_x3 r_x4 (by omega) (by decide) m5 m47
      ·
        replace c63 := ti_eqN c63 rfl rfl
        exact t_isNameThere_111   hself5 hself47 (x1 := x1) (x2 := x2) (x3 := x3) (x4 := x4) (x6 := x6) (t0 := (0 : Int32)) hI hA r_x1 r_x2 r_x3 r_x4 (by omega) (by decide) m5 m47
theorem t_isNameThere_47  {I : Nat → Int32} {A : Nat → Nat → Int32} {self5 : Int32 → Int32 → Int32 → Int32 → (Nat → Int32) → (Nat → Nat → Int32) → Option (Int32 × MS)} {N5 : Nat} (hself5 : ∀ (x1 : Int32) (x2 : Int32) (x3 : Int32) (x4 : Int32),  ((0 : Int) ≤ x1.toInt ∧ x1.toInt ≤ (1 : Int)) → ((0 : Int) ≤ x2.toInt ∧ x2.toInt ≤ (7 : Int)) → ((0 : Int) ≤ x3.toInt ∧ x3.toInt ≤ (1 : Int)) → ((0 : Int) ≤ x4.toInt ∧ x4.toInt ≤ (8 : Int)) → (9 - x4.toInt) < (N5 : Int) → Ok (self5 x1 x2 x3 x4 I A) (fun o => o.2 = (I, A) ∧ ((0 : Int) ≤ o.1.toInt ∧ o.1.toInt ≤ (1 : Int)))) (hI : TJ I) (hA : TK A) : ∀ (n : Nat) (x1 : Int32) (x2 : Int32) (x3 : Int32) (x4 : Int32) (x5 : Int32) (x6 : Int32),  ((0 : Int) ≤ x1.toInt ∧ x1.toInt ≤ (1 : Int)) → ((0 : Int) ≤ x2.toInt ∧ x2.toInt ≤ (7 : Int)) → ((0 : Int) ≤ x3.toInt ∧ x3.toInt ≤ (1 : Int)) → ((0 : Int) ≤ x4.toInt ∧ x4.toInt ≤ (7 : Int)) → ((0 : Int) ≤ x5.toInt ∧ x5.toInt ≤ (1 : Int)) → ((0 : Int) ≤ x6.toInt ∧ x6.toInt ≤ (12 : Int)) → ((9 - x4.toInt) ≤ (N5 : Int)) → (13 - x6.toInt) < (n : Int) → Ok (f_isNameThere_47 self5 n x1 x2 x3 x4 x5 x6 I A) (fun o => o.2 = (I, A) ∧ ((0 : Int) ≤ o.1.toInt ∧ o.1.toInt ≤ (1 : Int))) := by
  intro n
  induction n with
  | zero => intro x1 x2 x3 x4 x5 x6 g0 g1 g2 g3 g4 g5 w0 hm; exfalso; omega
  | succ n ih =>
    intro x1 x2 x3 x4 x5 x6 g0 g1 g2 g3 g4 g5 w0 hm
    exact t_isNameThere_47s   (N47 := n) hself5 ih hI hA g0 g1 g2 g3 g4 g5 w0 (by omega)
theorem t_isNameThere_42  {I : Nat → Int32} {A : Nat → Nat → Int32} {self5 : Int32 → Int32 → Int32 → Int32 → (Nat → Int32) → (Nat → Nat → Int32) → Option (Int32 × MS)} {N5 : Nat} (hself5 : ∀ (x1 : Int32) (x2 : Int32) (x3 : Int32) (x4 : Int32),  ((0 : Int) ≤ x1.toInt ∧ x1.toInt ≤ (1 : Int)) → ((0 : Int) ≤ x2.toInt ∧ x2.toInt ≤ (7 : Int)) → ((0 : Int) ≤ x3.toInt ∧ x3.toInt ≤ (1 : Int)) → ((0 : Int) ≤ x4.toInt ∧ x4.toInt ≤ (8 : Int)) → (9 - x4.toInt) < (N5 : Int) → Ok (self5 x1 x2 x3 x4 I A) (fun o => o.2 = (I, A) ∧ ((0 : Int) ≤ o.1.toInt ∧ o.1.toInt ≤ (1 : Int)))) {x1 : Int32} {x2 : Int32} {x3 : Int32} {x4 : Int32} {t0 : Int32} (hI : TJ I) (hA : TK A) (r_x1 : (0 : Int) ≤ x1.toInt ∧ x1.toInt ≤ (1 : Int)) (r_x2 : (0 : Int) ≤ x2.toInt ∧ x2.toInt ≤ (7 : Int)) (r_x3 : (0 : Int) ≤ x3.toInt ∧ x3.toInt ≤ (1 : Int)) (r_x4 : (0 : Int) ≤ x4.toInt ∧ x4.toInt ≤ (7 : Int)) (r_t0 : (0 : Int) ≤ t0.toInt ∧ t0.toInt ≤ (1 : Int)) (m5 : (9 - x4.toInt) ≤ (N5 : Int)) : Ok (f_isNameThere_42 self5 x1 x2 x3 x4 t0 I A) (fun o => o.2 = (I, A) ∧ ((0 : Int) ≤ o.1.toInt ∧ o.1.toInt ≤ (1 : Int))) := by
  unfold f_isNameThere_42
  exact t_isNameThere_47   hself5 hI hA mFuel x1 x2 x3 x4 t0 (0 : Int32)  r_x1 r_x2 r_x3 r_x4 r_t0 (by decide) m5 (by show _ < ((200000 : Nat) : Int); have z0 : (0 : Int32).toInt = 0 := rfl; omega)
theorem t_isNameThere_5s  {I : Nat → Int32} {A : Nat → Nat → Int32} {self5 : Int32 → Int32 → Int32 → Int32 → (Nat → Int32) → (Nat → Nat → Int32) → Option (Int32 × MS)} {N5 : Nat} (hself5 : ∀ (x1 : Int32) (x2 : Int32) (x3 : Int32) (x4 : Int32),  ((0 : Int) ≤ x1.toInt ∧ x1.toInt ≤ (1 : Int)) → ((0 : Int) ≤ x2.toInt ∧ x2.toInt ≤ (7 : Int)) → ((0 : Int) ≤ x3.toInt ∧ x3.toInt ≤ (1 : Int)) → ((0 : Int) ≤ x4.toInt ∧ x4.toInt ≤ (8 : Int)) → (9 - x4.toInt) < (N5 : Int) → Ok (self5 x1 x2 x3 x4 I A) (fun o => o.2 = (I, A) ∧ ((0 : Int) ≤ o.1.toInt ∧ o.1.toInt ≤ (1 : Int)))) {x1 : Int32} {x2 : Int32} {x3 : Int32} {x4 : Int32} (hI : TJ I) (hA : TK A) (r_x1 : (0 : Int) ≤ x1.toInt ∧ x1.toInt ≤ (1 : Int)) (r_x2 : (0 : Int) ≤ x2.toInt ∧ x2.toInt ≤ (7 : Int)) (r_x3 : (0 : Int) ≤ x3.toInt ∧ x3.toInt ≤ (1 : Int)) (r_x4 : (0 : Int) ≤ x4.toInt ∧ x4.toInt ≤ (8 : Int)) (m5 : (9 - x4.toInt) ≤ (N5 : Int)) : Ok (f_isNameThere_5s self5 x1 x2 x3 x4 I A) (fun o => o.2 = (I, A) ∧ ((0 : Int) ≤ o.1.toInt ∧ o.1.toInt ≤ (1 : Int))) := by
  unfold f_isNameThere_5s
  refine ok_if (fun c64 => ?_) (fun c64 => ?_)
  ·
    replace c64 := ti_leP c64 rfl rfl
    refine ok_chk (nar_b (by omega) (by omega)) ?_
    exact ok_ret ⟨rfl, (show (0 : Int) ≤ x3.toInt ∧ x3.toInt ≤ (1 : Int) from (by omega))⟩
  ·
    replace c64 := ti_leN c64 rfl rfl
    refine ok_bnd (fun v1 e65 => ?_)
    have t_v1 : v1.toInt = 8 * x1.toInt := ti_mul e65 (show (8 : Int32).toInt = 8 from rfl) rfl (by omega) (by omega)
    refine ok_bnd (fun v2 e66 => ?_)
    have t_v2 : v2.toInt = v1.toInt + x4.toInt := ti_add e66 rfl rfl (by omega) (by omega)
    refine ok_chk (ti_in (by omega) (by omega)) ?_
    refine ok_bnd (fun v3 e67 => ?_)
    have b_v3 := tA_19 hA ((v2).toNatClampNeg)
    rw [← e67] at b_v3
    refine ok_bnd (fun v4 e68 => ?_)
    have t_v4 : v4.toInt = 8 * x1.toInt := ti_mul e68 (show (8 : Int32).toInt = 8 from rfl) rfl (by omega) (by omega)
    refine ok_bnd (fun v5 e69 => ?_)
    have t_v5 : v5.toInt = v4.toInt + x2.toInt := ti_add e69 rfl rfl (by omega) (by omega)
    refine ok_chk (ti_in (by omega) (by omega)) ?_
    refine ok_bnd (fun v6 e70 => ?_)
    have b_v6 := tA_19 hA ((v5).toNatClampNeg)
    rw [← e70] at b_v6
    refine ok_if (fun c71 => ?_) (fun c71 => ?_)
    ·
      replace c71 := ti_eqP c71 rfl rfl
      exact t_isNameThere_42   hself5 (x1 := x1) (x2 := x2) (x3 := x3) (x4 := x4) (t0 := (1 : Int32)) hI hA r_x1 r_x2 r_x3 (by omega) (by decide) m5
    ·
      replace c71 := ti_eqN c71 rfl rfl
      exact t_isNameThere_42   hself5 (x1 := x1) (x2 := x2) (x3 := x3) (x4 := x4) (t0 := (0 : Int32)) hI hA r_x1 r_x2 r_x3 (by omega) (by decide) m5
theorem t_isNameThere_5  {I : Nat → Int32} {A : Nat → Nat → Int32} (hI : TJ I) (hA : TK A) : ∀ (n : Nat) (x1 : Int32) (x2 : Int32) (x3 : Int32) (x4 : Int32),  ((0 : Int) ≤ x1.toInt ∧ x1.toInt ≤ (1 : Int)) → ((0 : Int) ≤ x2.toInt ∧ x2.toInt ≤ (7 : Int)) → ((0 : Int) ≤ x3.toInt ∧ x3.toInt ≤ (1 : Int)) → ((0 : Int) ≤ x4.toInt ∧ x4.toInt ≤ (8 : Int)) → (9 - x4.toInt) < (n : Int) → Ok (f_isNameThere_5  n x1 x2 x3 x4 I A) (fun o => o.2 = (I, A) ∧ ((0 : Int) ≤ o.1.toInt ∧ o.1.toInt ≤ (1 : Int))) := by
  intro n
  induction n with
  | zero => intro x1 x2 x3 x4 g0 g1 g2 g3  hm; exfalso; omega
  | succ n ih =>
    intro x1 x2 x3 x4 g0 g1 g2 g3  hm
    exact t_isNameThere_5s   (N5 := n)  ih hI hA g0 g1 g2 g3  (by omega)
theorem t_isNameThere_0  {I : Nat → Int32} {A : Nat → Nat → Int32} {x1 : Int32} {x2 : Int32} (hI : TJ I) (hA : TK A) (r_x1 : (0 : Int) ≤ x1.toInt ∧ x1.toInt ≤ (1 : Int)) (r_x2 : (0 : Int) ≤ x2.toInt ∧ x2.toInt ≤ (7 : Int)) : Ok (f_isNameThere_0 x1 x2 I A) (fun o => o.2 = (I, A) ∧ ((0 : Int) ≤ o.1.toInt ∧ o.1.toInt ≤ (1 : Int))) := by
  unfold f_isNameThere_0
  exact t_isNameThere_5    hI hA mFuel x1 x2 (0 : Int32) (0 : Int32)  r_x1 r_x2 (by decide) (by decide) (by show _ < ((200000 : Nat) : Int); have z0 : (0 : Int32).toInt = 0 := rfl; have z1 : (0 : Int32).toInt = 0 := rfl; omega)
theorem t_isNameThere  {I : Nat → Int32} {A : Nat → Nat → Int32} {x1 : Int32} {x2 : Int32} (hI : TJ I) (hA : TK A) (r_x1 : (0 : Int) ≤ x1.toInt ∧ x1.toInt ≤ (1 : Int)) (r_x2 : (0 : Int) ≤ x2.toInt ∧ x2.toInt ≤ (7 : Int)) : Ok (f_isNameThere x1 x2 I A) (fun o => o.2 = (I, A) ∧ ((0 : Int) ≤ o.1.toInt ∧ o.1.toInt ≤ (1 : Int))) := t_isNameThere_0  hI hA r_x1 r_x2
theorem t_start_2s  {I : Nat → Int32} {A : Nat → Nat → Int32} {self2 : Int32 → Int32 → (Nat → Int32) → (Nat → Nat → Int32) → Option (Int32 × MS)} {N2 : Nat} (hself2 : ∀ (x1 : Int32) (x2 : Int32) (I : Nat → Int32) (A : Nat → Nat → Int32), TJ I → TK A → ((0 : Int) ≤ x1.toInt ∧ x1.toInt ≤ (1 : Int)) → ((0 : Int) ≤ x2.toInt ∧ x2.toInt ≤ (64 : Int)) → (0 ≤ (I 29).toInt ∧ (I 29).toInt ≤ 999) → (65 - x2.toInt) < (N2 : Int) → Ok (self2 x1 x2 I A) (fun o => TJ o.2.1 ∧ TK o.2.2 ∧ True)) {x1 : Int32} {x2 : Int32} (hI : TJ I) (hA : TK A) (r_x1 : (0 : Int) ≤ x1.toInt ∧ x1.toInt ≤ (1 : Int)) (r_x2 : (0 : Int) ≤ x2.toInt ∧ x2.toInt ≤ (64 : Int)) (q0 : 0 ≤ (I 29).toInt ∧ (I 29).toInt ≤ 999) (m2 : (65 - x2.toInt) ≤ (N2 : Int)) : Ok (f_start_2s self2 x1 x2 I A) (fun o => TJ o.2.1 ∧ TK o.2.2 ∧ True) := by
  unfold f_start_2s
  have b25 := tI_25 hI
  refine ok_if (fun c72 => ?_) (fun c72 => ?_)
  ·
    replace c72 := ti_leP c72 (show (64 : Int32).toInt = 64 from rfl) rfl
    refine ok_bnd (fun v1 e73 => ?_)
    have t_v1 : v1.toInt = 5 * x1.toInt := ti_mul e73 (show (5 : Int32).toInt = 5 from rfl) rfl (by omega) (by omega)
    refine ok_chk (ti_in (by omega) (by omega)) ?_
    refine ok_bnd (fun A2 e74 => ?_)
    have b_I_25 := tI_25 hI
    have n_A2 := ti_nc (a := v1) (by omega)
    have hA_A2 : TK A2 := by rw [e74]; exact tk_17 hA (fun h => by omega) (fun h => by omega)
    refine ok_bnd (fun v3 e75 => ?_)
    have t_v3 : v3.toInt = 5 * x1.toInt := ti_mul e75 (show (5 : Int32).toInt = 5 from rfl) rfl (by omega) (by omega)
    refine ok_bnd (fun v4 e76 => ?_)
    have t_v4 : v4.toInt = v3.toInt + 1 := ti_add e76 rfl (show (1 : Int32).toInt = 1 from rfl) (by omega) (by omega)
    refine ok_chk (ti_in (by omega) (by omega)) ?_
    refine ok_bnd (fun A5 e77 => ?_)
    have n_A5 := ti_nc (a := v4) (by omega)
    have hA_A5 : TK A5 := by rw [e77]; exact tk_17 hA_A2 (fun h => by omega) (fun h => by omega)
    refine ok_bnd (fun v6 e78 => ?_)
    have t_v6 : v6.toInt = 5 * x1.toInt := ti_mul e78 (show (5 : Int32).toInt = 5 from rfl) rfl (by omega) (by omega)
    refine ok_bnd (fun v7 e79 => ?_)
    have t_v7 : v7.toInt = v6.toInt + 2 := ti_add e79 rfl (show (2 : Int32).toInt = 2 from rfl) (by omega) (by omega)
    refine ok_chk (ti_in (by omega) (by omega)) ?_
    refine ok_bnd (fun A8 e80 => ?_)
    have n_A8 := ti_nc (a := v7) (by omega)
    have hA_A8 : TK A8 := by rw [e80]; exact tk_17 hA_A5 (fun h => by omega) (fun h => by omega)
    refine ok_bnd (fun v9 e81 => ?_)
    have t_v9 : v9.toInt = 5 * x1.toInt := ti_mul e81 (show (5 : Int32).toInt = 5 from rfl) rfl (by omega) (by omega)
    refine ok_bnd (fun v10 e82 => ?_)
    have t_v10 : v10.toInt = v9.toInt + 3 := ti_add e82 rfl (show (3 : Int32).toInt = 3 from rfl) (by omega) (by omega)
    refine ok_chk (ti_in (by omega) (by omega)) ?_
    refine ok_bnd (fun A11 e83 => ?_)
    have n_A11 := ti_nc (a := v10) (by omega)
    have hA_A11 : TK A11 := by rw [e83]; exact tk_17 hA_A8 (fun h => by omega) (fun h => by omega)
    refine ok_bnd (fun v12 e84 => ?_)
    have t_v12 : v12.toInt = 5 * x1.toInt := ti_mul e84 (show (5 : Int32).toInt = 5 from rfl) rfl (by omega) (by omega)
    refine ok_bnd (fun v13 e85 => ?_)
    have t_v13 : v13.toInt = v12.toInt + 4 := ti_add e85 rfl (show (4 : Int32).toInt = 4 from rfl) (by omega) (by omega)
    refine ok_chk (ti_in (by omega) (by omega)) ?_
    refine ok_bnd (fun A14 e86 => ?_)
    have b_I_29 := tI_29 hI
    have n_A14 := ti_nc (a := v13) (by omega)
    have hA_A14 : TK A14 := by rw [e86]; exact tk_17 hA_A11 (fun h => by omega) (fun h => by omega)
    exact ok_ret ⟨hI, hA_A14, trivial⟩
  ·
    replace c72 := ti_leN c72 (show (64 : Int32).toInt = 64 from rfl) rfl
    refine ok_bnd (fun v15 e87 => ?_)
    have t_v15 : v15.toInt = 64 * x1.toInt := ti_mul e87 (show (64 : Int32).toInt = 64 from rfl) rfl (by omega) (by omega)
    refine ok_bnd (fun v16 e88 => ?_)
    have t_v16 : v16.toInt = v15.toInt + x2.toInt := ti_add e88 rfl rfl (by omega) (by omega)
    refine ok_chk (ti_in (by omega) (by omega)) ?_
    refine ok_bnd (fun v17 e89 => ?_)
    refine ok_chk (ti_in (by omega) (by omega)) ?_
    refine ok_bnd (fun A18 e90 => ?_)
    have hA_A18 : TK A18 := e90.symm ▸ tk_w hA (j := 16) rfl
    refine ok_bnd (fun v19 e91 => ?_)
    have t_v19 : v19.toInt = x2.toInt + 1 := ti_add e91 rfl (show (1 : Int32).toInt = 1 from rfl) (by omega) (by omega)
    exact hself2 x1 v19 I A18 hI hA_A18 r_x1 (by omega) q0 (by omega)
theorem t_start_2   : ∀ (n : Nat) (x1 : Int32) (x2 : Int32) (I : Nat → Int32) (A : Nat → Nat → Int32), TJ I → TK A → ((0 : Int) ≤ x1.toInt ∧ x1.toInt ≤ (1 : Int)) → ((0 : Int) ≤ x2.toInt ∧ x2.toInt ≤ (64 : Int)) → (0 ≤ (I 29).toInt ∧ (I 29).toInt ≤ 999) → (65 - x2.toInt) < (n : Int) → Ok (f_start_2  n x1 x2 I A) (fun o => TJ o.2.1 ∧ TK o.2.2 ∧ True) := by
  intro n
  induction n with
  | zero => intro x1 x2 I A hI hA g0 g1 g2  hm; exfalso; omega
  | succ n ih =>
    intro x1 x2 I A hI hA g0 g1 g2  hm
    exact t_start_2s   (N2 := n)  ih hI hA g0 g1 g2  (by omega)
theorem t_start_0  {I : Nat → Int32} {A : Nat → Nat → Int32} {x1 : Int32} (hI : TJ I) (hA : TK A) (r_x1 : (0 : Int) ≤ x1.toInt ∧ x1.toInt ≤ (1 : Int)) (q0 : 0 ≤ (I 29).toInt ∧ (I 29).toInt ≤ 999) : Ok (f_start_0 x1 I A) (fun o => TJ o.2.1 ∧ TK o.2.2 ∧ True) := by
  unfold f_start_0
  exact t_start_2     mFuel x1 (0 : Int32) I A hI hA r_x1 (by decide) q0 (by show _ < ((200000 : Nat) : Int); have z0 : (0 : Int32).toInt = 0 := rfl; omega)
theorem t_start  {I : Nat → Int32} {A : Nat → Nat → Int32} {x1 : Int32} (hI : TJ I) (hA : TK A) (r_x1 : (0 : Int) ≤ x1.toInt ∧ x1.toInt ≤ (1 : Int)) (q0 : 0 ≤ (I 29).toInt ∧ (I 29).toInt ≤ 999) : Ok (f_start x1 I A) (fun o => TJ o.2.1 ∧ TK o.2.2 ∧ True) := t_start_0  hI hA r_x1 q0
theorem t_usual_83  {I : Nat → Int32} {A : Nat → Nat → Int32} {self23 : Int32 → Int32 → (Nat → Int32) → (Nat → Nat → Int32) → Option (Int32 × MS)} {N23 : Nat} (hself23 : ∀ (x1 : Int32) (x2 : Int32) (I : Nat → Int32) (A : Nat → Nat → Int32), TJ I → TK A → ((0 : Int) ≤ x1.toInt ∧ x1.toInt ≤ (1 : Int)) → ((0 : Int) ≤ x2.toInt ∧ x2.toInt ≤ (8 : Int)) → (9 - x2.toInt) < (N23 : Int) → Ok (self23 x1 x2 I A) (fun o => TJ o.2.1 ∧ TK o.2.2 ∧ ((o.2.1 29).toInt = 1))) {x1 : Int32} {x2 : Int32} {t0 : Int32} (hI : TJ I) (hA : TK A) (r_x1 : (0 : Int) ≤ x1.toInt ∧ x1.toInt ≤ (1 : Int)) (r_x2 : (0 : Int) ≤ x2.toInt ∧ x2.toInt ≤ (7 : Int)) (r_t0 : (2 : Int) ≤ t0.toInt ∧ t0.toInt ≤ (6 : Int)) (m23 : (9 - x2.toInt) ≤ (N23 : Int)) : Ok (f_usual_83 self23 x1 x2 t0 I A) (fun o => TJ o.2.1 ∧ TK o.2.2 ∧ ((o.2.1 29).toInt = 1)) := by
  unfold f_usual_83
  have b_I_29 := tI_29 hI
  refine ok_chk (ti_in (by omega) (by omega)) ?_
  refine ok_bnd (fun A1 e92 => ?_)
  have hA_A1 : TK A1 := e92.symm ▸ tk_w hA (j := 24) rfl
  refine ok_bnd (fun v2 e93 => ?_)
  have t_v2 : v2.toInt = 8 + x2.toInt := ti_add e93 (show (8 : Int32).toInt = 8 from rfl) rfl (by omega) (by omega)
  refine ok_chk (ti_in (by omega) (by omega)) ?_
  refine ok_bnd (fun A3 e94 => ?_)
  have hA_A3 : TK A3 := e94.symm ▸ tk_w hA_A1 (j := 24) rfl
  refine ok_bnd (fun v4 e95 => ?_)
  have t_v4 : v4.toInt = 48 + x2.toInt := ti_add e95 (show (48 : Int32).toInt = 48 from rfl) rfl (by omega) (by omega)
  refine ok_chk (ti_in (by omega) (by omega)) ?_
  refine ok_bnd (fun A5 e96 => ?_)
  have hA_A5 : TK A5 := e96.symm ▸ tk_w hA_A3 (j := 24) rfl
  refine ok_bnd (fun v6 e97 => ?_)
  have t_v6 : v6.toInt = 56 + x2.toInt := ti_add e97 (show (56 : Int32).toInt = 56 from rfl) rfl (by omega) (by omega)
  refine ok_bnd (fun v7 e98 => ?_)
  have t_v7 : v7.toInt = t0.toInt + 8 := ti_add e98 rfl (show (8 : Int32).toInt = 8 from rfl) (by omega) (by omega)
  refine ok_chk (ti_in (by omega) (by omega)) ?_
  refine ok_bnd (fun A8 e99 => ?_)
  have hA_A8 : TK A8 := e99.symm ▸ tk_w hA_A5 (j := 24) rfl
  refine ok_bnd (fun v9 e100 => ?_)
  have t_v9 : v9.toInt = x2.toInt + 1 := ti_add e100 rfl (show (1 : Int32).toInt = 1 from rfl) (by omega) (by omega)
  exact hself23 x1 v9 I A8 hI hA_A8 r_x1 (by omega) (by omega)
theorem t_usual_23s  {I : Nat → Int32} {A : Nat → Nat → Int32} {self23 : Int32 → Int32 → (Nat → Int32) → (Nat → Nat → Int32) → Option (Int32 × MS)} {N23 : Nat} (hself23 : ∀ (x1 : Int32) (x2 : Int32) (I : Nat → Int32) (A : Nat → Nat → Int32), TJ I → TK A → ((0 : Int) ≤ x1.toInt ∧ x1.toInt ≤ (1 : Int)) → ((0 : Int) ≤ x2.toInt ∧ x2.toInt ≤ (8 : Int)) → (9 - x2.toInt) < (N23 : Int) → Ok (self23 x1 x2 I A) (fun o => TJ o.2.1 ∧ TK o.2.2 ∧ ((o.2.1 29).toInt = 1))) {x1 : Int32} {x2 : Int32} (hI : TJ I) (hA : TK A) (r_x1 : (0 : Int) ≤ x1.toInt ∧ x1.toInt ≤ (1 : Int)) (r_x2 : (0 : Int) ≤ x2.toInt ∧ x2.toInt ≤ (8 : Int)) (m23 : (9 - x2.toInt) ≤ (N23 : Int)) : Ok (f_usual_23s self23 x1 x2 I A) (fun o => TJ o.2.1 ∧ TK o.2.2 ∧ ((o.2.1 29).toInt = 1)) := by
  unfold f_usual_23s
  have b_I_29 := tI_29 hI
  refine ok_if (fun c101 => ?_) (fun c101 => ?_)
  ·
    replace c101 := ti_leP c101 (show (8 : Int32).toInt = 8 from rfl) rfl
    refine ok_bnd (fun I1 e102 => ?_)
    have hI_I1 : TJ I1 := e102.symm ▸ tj_u hI (k := 25) (show (0 : Int) ≤ (0 : Int32).toInt from (by decide)) (show (0 : Int32).toInt ≤ (1 : Int) from (by decide))
    have : (I1 29).toInt = (I 29).toInt := by rw [e102]; rfl
    refine ok_bnd (fun I2 e103 => ?_)
    have hI_I2 : TJ I2 := e103.symm ▸ tj_w hI_I1 (k := 26) rfl
    have : (I2 29).toInt = (I1 29).toInt := by rw [e103]; rfl
    refine ok_bnd (fun I3 e104 => ?_)
    have hI_I3 : TJ I3 := e104.symm ▸ tj_w hI_I2 (k := 27) rfl
    have : (I3 29).toInt = (I2 29).toInt := by rw [e104]; rfl
    refine ok_bnd (fun I4 e105 => ?_)
    have hI_I4 : TJ I4 := e105.symm ▸ tj_w hI_I3 (k := 28) rfl
    have : (I4 29).toInt = (I3 29).toInt := by rw [e105]; rfl
    refine ok_bnd (fun I5 e106 => ?_)
    have hI_I5 : TJ I5 := e106.symm ▸ tj_u hI_I4 (k := 29) (show (-1 : Int) ≤ (1 : Int32).toInt from (by decide)) (show (1 : Int32).toInt ≤ (2000 : Int) from (by decide))
    have : (I5 29).toInt = 1 := by rw [e106]; exact (show (1 : Int32).toInt = 1 from rfl)
    have b_I5_29 := tI_29 hI_I5
    obtain ⟨⟨r6, Ic6, Ac6⟩, h_r6, hI_Ic6, hA_Ac6, -⟩ := t_start (x1 := x1)  hI_I5 hA r_x1 (by omega)
    replace hI_Ic6 : TJ Ic6 := hI_Ic6
    replace hA_Ac6 : TK Ac6 := hA_Ac6
    refine ok_clR h_r6 ?_
    have f_r6 := fw_start h_r6
    have : (Ic6 29).toInt = (I5 29).toInt := congrArg Int32.toInt (f_r6.1 29 (by decide))
    exact ok_ret ⟨hI_Ic6, hA_Ac6, (by show (Ic6 29).toInt = 1; have z : (0 : Int32).toInt = 0 := rfl; omega)⟩
  ·
    replace c101 := ti_leN c101 (show (8 : Int32).toInt = 8 from rfl) rfl
    refine ok_if (fun c107 => ?_) (fun c107 => ?_)
    ·
      replace c107 := ti_eqP c107 rfl (show (0 : Int32).toInt = 0 from rfl)
      unfold f_usual_39
      exact t_usual_83   hself23 (x1 := x1) (x2 := x2) (t0 := (4 : Int32)) hI hA r_x1 (by omega) (by decide) m23
    ·
      replace c107 := ti_eqN c107 rfl (show (0 : Int32).toInt = 0 from rfl)
      refine ok_if (fun c108 => ?_) (fun c108 => ?_)
      ·
        replace c108 := ti_eqP c108 rfl (show (7 : Int32).toInt = 7 from rfl)
        unfold f_usual_39
        exact t_usual_83   hself23 (x1 := x1) (x2 := x2) (t0 := (4 : Int32)) hI hA r_x1 (by omega) (by decide) m23
      ·
        replace c108 := ti_eqN c108 rfl (show (7 : Int32).toInt = 7 from rfl)
        refine ok_if (fun c109 => ?_) (fun c109 => ?_)
        ·
          replace c109 := ti_eqP c109 rfl (show (1 : Int32).toInt = 1 from rfl)
          unfold f_usual_54
          exact t_usual_83   hself23 (x1 := x1) (x2 := x2) (t0 := (2 : Int32)) hI hA r_x1 (by omega) (by decide) m23
        ·
          replace c109 := ti_eqN c109 rfl (show (1 : Int32).toInt = 1 from rfl)
          refine ok_if (fun c110 => ?_) (fun c110 => ?_)
          ·
            replace c110 := ti_eqP c110 rfl (show (6 : Int32).toInt = 6 from rfl)
            unfold f_usual_54
            exact t_usual_83   hself23 (x1 := x1) (x2 := x2) (t0 := (2 : Int32)) hI hA r_x1 (by omega) (by decide) m23
          ·
            replace c110 := ti_eqN c110 rfl (show (6 : Int32).toInt = 6 from rfl)
            refine ok_if (fun c111 => ?_) (fun c111 => ?_)
            ·
              replace c111 := ti_eqP c111 rfl (show (2 : Int32).toInt = 2 from rfl)
              unfold f_usual_68
              exact t_usual_83   hself23 (x1 := x1) (x2 := x2) (t0 := (3 : Int32)) hI hA r_x1 (by omega) (by decide) m23
            ·
              replace c111 := ti_eqN c111 rfl (show (2 : Int32).toInt = 2 from rfl)
              refine ok_if (fun c112 => ?_) (fun c112 => ?_)
              ·
                replace c112 := ti_eqP c112 rfl (show (5 : Int32).toInt = 5 from rfl)
                unfold f_usual_68
                exact t_usual_83   hself23 (x1 := x1) (x2 := x2) (t0 := (3 : Int32)) hI hA r_x1 (by omega) (by decide) m23
              ·
                replace c112 := ti_eqN c112 rfl (show (5 : Int32).toInt = 5 from rfl)
                refine ok_if (fun c113 => ?_) (fun c113 => ?_)
                ·
                  replace c113 := ti_eqP c113 rfl (show (3 : Int32).toInt = 3 from rfl)
                  exact t_usual_83   hself23 (x1 := x1) (x2 := x2) (t0 := (5 : Int32)) hI hA r_x1 (by omega) (by decide) m23
                ·
                  replace c113 := ti_eqN c113 rfl (show (3 : Int32).toInt = 3 from rfl)
                  exact t_usual_83   hself23 (x1 := x1) (x2 := x2) (t0 := (6 : Int32)) hI hA r_x1 (by omega) (by decide) m23
theorem t_usual_23   : ∀ (n : Nat) (x1 : Int32) (x2 : Int32) (I : Nat → Int32) (A : Nat → Nat → Int32), TJ I → TK A → ((0 : Int) ≤ x1.toInt ∧ x1.toInt ≤ (1 : Int)) → ((0 : Int) ≤ x2.toInt ∧ x2.toInt ≤ (8 : Int)) → (9 - x2.toInt) < (n : Int) → Ok (f_usual_23  n x1 x2 I A) (fun o => TJ o.2.1 ∧ TK o.2.2 ∧ ((o.2.1 29).toInt = 1)) := by
  intro n
  induction n with
  | zero => intro x1 x2 I A hI hA g0 g1  hm; exfalso; omega
  | succ n ih =>
    intro x1 x2 I A hI hA g0 g1  hm
    exact t_usual_23s   (N23 := n)  ih hI hA g0 g1  (by omega)
theorem t_usual_2s  {I : Nat → Int32} {A : Nat → Nat → Int32} {self2 : Int32 → Int32 → (Nat → Int32) → (Nat → Nat → Int32) → Option (Int32 × MS)} {N2 : Nat} (hself2 : ∀ (x1 : Int32) (x2 : Int32) (I : Nat → Int32) (A : Nat → Nat → Int32), TJ I → TK A → ((0 : Int) ≤ x1.toInt ∧ x1.toInt ≤ (1 : Int)) → ((0 : Int) ≤ x2.toInt ∧ x2.toInt ≤ (64 : Int)) → (65 - x2.toInt) < (N2 : Int) → Ok (self2 x1 x2 I A) (fun o => TJ o.2.1 ∧ TK o.2.2 ∧ ((o.2.1 29).toInt = 1))) {x1 : Int32} {x2 : Int32} (hI : TJ I) (hA : TK A) (r_x1 : (0 : Int) ≤ x1.toInt ∧ x1.toInt ≤ (1 : Int)) (r_x2 : (0 : Int) ≤ x2.toInt ∧ x2.toInt ≤ (64 : Int)) (m2 : (65 - x2.toInt) ≤ (N2 : Int)) : Ok (f_usual_2s self2 x1 x2 I A) (fun o => TJ o.2.1 ∧ TK o.2.2 ∧ ((o.2.1 29).toInt = 1)) := by
  unfold f_usual_2s
  have b_I_29 := tI_29 hI
  refine ok_if (fun c114 => ?_) (fun c114 => ?_)
  ·
    replace c114 := ti_leP c114 (show (64 : Int32).toInt = 64 from rfl) rfl
    exact t_usual_23     mFuel x1 (0 : Int32) I A hI hA r_x1 (by decide) (by show _ < ((200000 : Nat) : Int); have z0 : (0 : Int32).toInt = 0 := rfl; omega)
  ·
    replace c114 := ti_leN c114 (show (64 : Int32).toInt = 64 from rfl) rfl
    refine ok_chk (ti_in (by omega) (by omega)) ?_
    refine ok_bnd (fun A1 e115 => ?_)
    have hA_A1 : TK A1 := e115.symm ▸ tk_w hA (j := 24) rfl
    refine ok_bnd (fun v2 e116 => ?_)
    have t_v2 : v2.toInt = x2.toInt + 1 := ti_add e116 rfl (show (1 : Int32).toInt = 1 from rfl) (by omega) (by omega)
    exact hself2 x1 v2 I A1 hI hA_A1 r_x1 (by omega) (by omega)
theorem t_usual_2   : ∀ (n : Nat) (x1 : Int32) (x2 : Int32) (I : Nat → Int32) (A : Nat → Nat → Int32), TJ I → TK A → ((0 : Int) ≤ x1.toInt ∧ x1.toInt ≤ (1 : Int)) → ((0 : Int) ≤ x2.toInt ∧ x2.toInt ≤ (64 : Int)) → (65 - x2.toInt) < (n : Int) → Ok (f_usual_2  n x1 x2 I A) (fun o => TJ o.2.1 ∧ TK o.2.2 ∧ ((o.2.1 29).toInt = 1)) := by
  intro n
  induction n with
  | zero => intro x1 x2 I A hI hA g0 g1  hm; exfalso; omega
  | succ n ih =>
    intro x1 x2 I A hI hA g0 g1  hm
    exact t_usual_2s   (N2 := n)  ih hI hA g0 g1  (by omega)
theorem t_usual_0  {I : Nat → Int32} {A : Nat → Nat → Int32} {x1 : Int32} (hI : TJ I) (hA : TK A) (r_x1 : (0 : Int) ≤ x1.toInt ∧ x1.toInt ≤ (1 : Int)) : Ok (f_usual_0 x1 I A) (fun o => TJ o.2.1 ∧ TK o.2.2 ∧ ((o.2.1 29).toInt = 1)) := by
  unfold f_usual_0
  have b_I_29 := tI_29 hI
  exact t_usual_2     mFuel x1 (0 : Int32) I A hI hA r_x1 (by decide) (by show _ < ((200000 : Nat) : Int); have z0 : (0 : Int32).toInt = 0 := rfl; omega)
theorem t_usual  {I : Nat → Int32} {A : Nat → Nat → Int32} {x1 : Int32} (hI : TJ I) (hA : TK A) (r_x1 : (0 : Int) ≤ x1.toInt ∧ x1.toInt ≤ (1 : Int)) : Ok (f_usual x1 I A) (fun o => TJ o.2.1 ∧ TK o.2.2 ∧ ((o.2.1 29).toInt = 1)) := t_usual_0  hI hA r_x1
theorem t_clearNode_0  {I : Nat → Int32} {A : Nat → Nat → Int32} {x1 : Int32} (hI : TJ I) (hA : TK A) (r_x1 : (0 : Int) ≤ x1.toInt ∧ x1.toInt ≤ (601 : Int)) : Ok (f_clearNode_0 x1 I A) (fun o => TJ o.2.1 ∧ TK o.2.2 ∧ True) := by
  unfold f_clearNode_0
  refine ok_chk (ti_in (by omega) (by omega)) ?_
  refine ok_bnd (fun A1 e117 => ?_)
  have hA_A1 : TK A1 := e117.symm ▸ tk_u hA (j := 10) (show (-1 : Int) ≤ (-1 : Int32).toInt from (by decide)) (show (-1 : Int32).toInt ≤ (300 : Int) from (by decide))
  refine ok_chk (ti_in (by omega) (by omega)) ?_
  refine ok_bnd (fun A2 e118 => ?_)
  have hA_A2 : TK A2 := e118.symm ▸ tk_u hA_A1 (j := 11) (show (-1 : Int) ≤ (-1 : Int32).toInt from (by decide)) (show (-1 : Int32).toInt ≤ (300 : Int) from (by decide))
  refine ok_chk (ti_in (by omega) (by omega)) ?_
  refine ok_bnd (fun A3 e119 => ?_)
  have hA_A3 : TK A3 := e119.symm ▸ tk_u hA_A2 (j := 12) (show (0 : Int) ≤ (0 : Int32).toInt from (by decide)) (show (0 : Int32).toInt ≤ (4 : Int) from (by decide))
  refine ok_chk (ti_in (by omega) (by omega)) ?_
  refine ok_bnd (fun A4 e120 => ?_)
  have hA_A4 : TK A4 := e120.symm ▸ tk_u hA_A3 (j := 14) (show (0 : Int) ≤ (0 : Int32).toInt from (by decide)) (show (0 : Int32).toInt ≤ (200 : Int) from (by decide))
  exact ok_ret ⟨hI, hA_A4, trivial⟩
theorem t_clearNode  {I : Nat → Int32} {A : Nat → Nat → Int32} {x1 : Int32} (hI : TJ I) (hA : TK A) (r_x1 : (0 : Int) ≤ x1.toInt ∧ x1.toInt ≤ (601 : Int)) : Ok (f_clearNode x1 I A) (fun o => TJ o.2.1 ∧ TK o.2.2 ∧ True) := t_clearNode_0  hI hA r_x1
theorem t_readTag_124 {aa : Int} {I : Nat → Int32} {A : Nat → Nat → Int32} {self71 : Int32 → Int32 → Int32 → Int32 → Int32 → (Nat → Int32) → (Nat → Nat → Int32) → Option (Int32 × MS)} {N71 : Nat} (hself71 : ∀ (x1 : Int32) (x2 : Int32) (x3 : Int32) (x4 : Int32) (x5 : Int32) (I : Nat → Int32) (A : Nat → Nat → Int32), TJ I → TK A → ((0 : Int) ≤ x1.toInt ∧ x1.toInt ≤ (1 : Int)) → ((0 : Int) ≤ x2.toInt ∧ x2.toInt ≤ (2000 : Int)) → ((0 : Int) ≤ x3.toInt ∧ x3.toInt ≤ (8 : Int)) → ((0 : Int) ≤ x4.toInt ∧ x4.toInt ≤ (1 : Int)) → ((0 : Int) ≤ x5.toInt ∧ x5.toInt ≤ (2100 : Int)) → ((I 37).toInt ≤ (I 1).toInt) → (aa < (I 37).toInt) → ((I 29).toInt ≤ 1999) → (x5.toInt ≤ (I 37).toInt) → (x4.toInt = 0 → x3.toInt ≤ 7) → (cE A (x1).toNatClampNeg x3.toInt) → ((I 1).toInt - (I 37).toInt) < (N71 : Int) → Ok (self71 x1 x2 x3 x4 x5 I A) (fun o => TJ o.2.1 ∧ TK o.2.2 ∧ ((0 : Int) ≤ o.1.toInt ∧ o.1.toInt ≤ (92100 : Int)) ∧ ((o.2.1 37).toInt ≤ (o.2.1 1).toInt ∧ aa < (o.2.1 37).toInt) ∧ ((o.2.1 29).toInt ≤ 1999))) {x1 : Int32} {x2 : Int32} {x3 : Int32} {x4 : Int32} {x5 : Int32} (hI : TJ I) (hA : TK A) (r_x1 : (0 : Int) ≤ x1.toInt ∧ x1.toInt ≤ (1 : Int)) (r_x2 : (0 : Int) ≤ x2.toInt ∧ x2.toInt ≤ (2000 : Int)) (r_x3 : (0 : Int) ≤ x3.toInt ∧ x3.toInt ≤ (8 : Int)) (r_x4 : (0 : Int) ≤ x4.toInt ∧ x4.toInt ≤ (1 : Int)) (r_x5 : (0 : Int) ≤ x5.toInt ∧ x5.toInt ≤ (2100 : Int)) (q0 : (I 37).toInt < (I 1).toInt) (q1 : aa < (I 37).toInt) (q2 : (I 29).toInt ≤ 1999) (q3 : x5.toInt ≤ (I 37).toInt) (q4 : x4.toInt = 0 → x3.toInt ≤ 7) (q5 : cE A (x1).toNatClampNeg x3.toInt) (m71 : ((I 1).toInt - (I 37).toInt) ≤ (N71 : Int)) : Ok (f_readTag_124 self71 x1 x2 x3 x4 x5 I A) (fun o => TJ o.2.1 ∧ TK o.2.2 ∧ ((0 : Int) ≤ o.1.toInt ∧ o.1.toInt ≤ (92100 : Int)) ∧ ((o.2.1 37).toInt ≤ (o.2.1 1).toInt ∧ aa < (o.2.1 37).toInt) ∧ ((o.2.1 29).toInt ≤ 1999)) := by
  unfold f_readTag_124
  have b_I_1 := tI_1 hI
  have b_I_37 := tI_37 hI
  have b_I_29 := tI_29 hI
  refine ok_bnd (fun v1 e121 => ?_)
  have t_v1 : v1.toInt = x5.toInt + 1 := ti_add e121 rfl (show (1 : Int32).toInt = 1 from rfl) (by omega) (by omega)
  refine ok_bnd (fun v2 e122 => ?_)
  have t_v2 : v2.toInt = (I 37).toInt + 1 := ti_add e122 rfl (show (1 : Int32).toInt = 1 from rfl) (by omega) (by omega)
  refine ok_bnd (fun I3 e123 => ?_)
  have hI_I3 : TJ I3 := e123.symm ▸ tj_u hI (k := 37) (show (0 : Int) ≤ v2.toInt from (by omega)) (show v2.toInt ≤ (2100 : Int) from (by omega))
  have : (I3 1).toInt = (I 1).toInt := by rw [e123]; rfl
  have : (I3 37).toInt = v2.toInt := by rw [e123]; exact rfl
  have : (I3 29).toInt = (I 29).toInt := by rw [e123]; rfl
  have b_I3_1 := tI_1 hI_I3
  have b_I3_37 := tI_37 hI_I3
  have b_I3_29 := tI_29 hI_I3
  exact hself71 x1 x2 x3 x4 v1 I3 A hI_I3 hA r_x1 r_x2 r_x3 r_x4 (by omega) (by omega) (by omega) (by omega) (by omega) q4 q5 (by omega)
theorem t_readTag_91 {aa : Int} {I : Nat → Int32} {A : Nat → Nat → Int32} {self71 : Int32 → Int32 → Int32 → Int32 → Int32 → (Nat → Int32) → (Nat → Nat → Int32) → Option (Int32 × MS)} {N71 : Nat} (hself71 : ∀ (x1 : Int32) (x2 : Int32) (x3 : Int32) (x4 : Int32) (x5 : Int32) (I : Nat → Int32) (A : Nat → Nat → Int32), TJ I → TK A → ((0 : Int) ≤ x1.toInt ∧ x1.toInt ≤ (1 : Int)) → ((0 : Int) ≤ x2.toInt ∧ x2.toInt ≤ (2000 : Int)) → ((0 : Int) ≤ x3.toInt ∧ x3.toInt ≤ (8 : Int)) → ((0 : Int) ≤ x4.toInt ∧ x4.toInt ≤ (1 : Int)) → ((0 : Int) ≤ x5.toInt ∧ x5.toInt ≤ (2100 : Int)) → ((I 37).toInt ≤ (I 1).toInt) → (aa < (I 37).toInt) → ((I 29).toInt ≤ 1999) → (x5.toInt ≤ (I 37).toInt) → (x4.toInt = 0 → x3.toInt ≤ 7) → (cE A (x1).toNatClampNeg x3.toInt) → ((I 1).toInt - (I 37).toInt) < (N71 : Int) → Ok (self71 x1 x2 x3 x4 x5 I A) (fun o => TJ o.2.1 ∧ TK o.2.2 ∧ ((0 : Int) ≤ o.1.toInt ∧ o.1.toInt ≤ (92100 : Int)) ∧ ((o.2.1 37).toInt ≤ (o.2.1 1).toInt ∧ aa < (o.2.1 37).toInt) ∧ ((o.2.1 29).toInt ≤ 1999))) {x1 : Int32} {x2 : Int32} {x3 : Int32} {x4 : Int32} {x5 : Int32} (hI : TJ I) (hA : TK A) (r_x1 : (0 : Int) ≤ x1.toInt ∧ x1.toInt ≤ (1 : Int)) (r_x2 : (0 : Int) ≤ x2.toInt ∧ x2.toInt ≤ (2000 : Int)) (r_x3 : (0 : Int) ≤ x3.toInt ∧ x3.toInt ≤ (8 : Int)) (r_x4 : (0 : Int) ≤ x4.toInt ∧ x4.toInt ≤ (1 : Int)) (r_x5 : (0 : Int) ≤ x5.toInt ∧ x5.toInt ≤ (2100 : Int)) (q0 : (I 37).toInt < (I 1).toInt) (q1 : aa < (I 37).toInt) (q2 : (I 29).toInt ≤ 1999) (q3 : x5.toInt ≤ (I 37).toInt) (q4 : x4.toInt = 0 → x3.toInt ≤ 7) (q5 : cE A (x1).toNatClampNeg x3.toInt) (m71 : ((I 1).toInt - (I 37).toInt) ≤ (N71 : Int)) : Ok (f_readTag_91 self71 x1 x2 x3 x4 x5 I A) (fun o => TJ o.2.1 ∧ TK o.2.2 ∧ ((0 : Int) ≤ o.1.toInt ∧ o.1.toInt ≤ (92100 : Int)) ∧ ((o.2.1 37).toInt ≤ (o.2.1 1).toInt ∧ aa < (o.2.1 37).toInt) ∧ ((o.2.1 29).toInt ≤ 1999)) := by
  unfold f_readTag_91
  have b_I_1 := tI_1 hI
  have b_I_37 := tI_37 hI
  have b_I_29 := tI_29 hI
  refine ok_if (fun c124 => ?_) (fun c124 => ?_)
  ·
    replace c124 := ti_leP c124 (show (12 : Int32).toInt = 12 from rfl) rfl
    exact t_readTag_124 (aa := aa)  hself71 (x1 := x1) (x2 := x2) (x3 := x3) (x4 := x4) (x5 := x5) hI hA r_x1 r_x2 r_x3 r_x4 r_x5 q0 q1 q2 q3 q4 q5 m71
  ·
    replace c124 := ti_leN c124 (show (12 : Int32).toInt = 12 from rfl) rfl
    refine ok_if (fun c125 => ?_) (fun c125 => ?_)
    ·
      replace c125 := ti_eqP c125 rfl (show (0 : Int32).toInt = 0 from rfl)
      refine ok_bnd (fun v1 e126 => ?_)
      have t_v1 : v1.toInt = 96 * x1.toInt := ti_mul e126 (show (96 : Int32).toInt = 96 from rfl) rfl (by omega) (by omega)
      refine ok_bnd (fun v2 e127 => ?_)
      have t_v2 : v2.toInt = 12 * x3.toInt := ti_mul e127 (show (12 : Int32).toInt = 12 from rfl) rfl (by omega) (by omega)
      refine ok_bnd (fun v3 e128 => ?_)
      have t_v3 : v3.toInt = v1.toInt + v2.toInt := ti_add e128 rfl rfl (by omega) (by omega)
      refine ok_bnd (fun v4 e129 => ?_)
      have t_v4 : v4.toInt = v3.toInt + x5.toInt := ti_add e129 rfl rfl (by omega) (by omega)
      obtain ⟨r5, h_r5, p_r5⟩ := ro (t_look   hI hA )
      refine ok_clR h_r5 ?_
      dsimp only at p_r5
      refine ok_chk (ti_in (by omega) (by omega)) ?_
      refine ok_bnd (fun A6 e130 => ?_)
      have hA_A6 : TK A6 := e130.symm ▸ tk_n hA rfl
      have k131 : cE A6 (x1).toNatClampNeg x3.toInt := cE_fr (show A6 18 = A 18 by rw [e130]; exact va_up_ne _ _ (by decide)) q5
      exact t_readTag_124 (aa := aa)  hself71 (x1 := x1) (x2 := x2) (x3 := x3) (x4 := x4) (x5 := x5) hI hA_A6 r_x1 r_x2 r_x3 r_x4 r_x5 q0 q1 q2 q3 q4 k131 m71
    ·
      replace c125 := ti_eqN c125 rfl (show (0 : Int32).toInt = 0 from rfl)
      exact t_readTag_124 (aa := aa)  hself71 (x1 := x1) (x2 := x2) (x3 := x3) (x4 := x4) (x5 := x5) hI hA r_x1 r_x2 r_x3 r_x4 r_x5 q0 q1 q2 q3 q4 q5 m71
theorem t_readTag_370 {aa : Int} {I : Nat → Int32} {A : Nat → Nat → Int32} {x2 : Int32} (hI : TJ I) (hA : TK A) (r_x2 : (0 : Int) ≤ x2.toInt ∧ x2.toInt ≤ (2000 : Int)) (q0 : (I 37).toInt ≤ (I 1).toInt) (q1 : aa < (I 37).toInt) (q2 : (I 29).toInt ≤ 1999) : Ok (f_readTag_370 x2 I A) (fun o => TJ o.2.1 ∧ TK o.2.2 ∧ ((0 : Int) ≤ o.1.toInt ∧ o.1.toInt ≤ (92100 : Int)) ∧ ((o.2.1 37).toInt ≤ (o.2.1 1).toInt ∧ aa < (o.2.1 37).toInt) ∧ ((o.2.1 29).toInt ≤ 1999)) := by
  unfold f_readTag_370
  have b_I_1 := tI_1 hI
  have b_I_37 := tI_37 hI
  have b_I_29 := tI_29 hI
  obtain ⟨r1, h_r1, p_r1⟩ := ro (t_fault (x0 := (2 : Int32)) (x1 := x2)  hI hA (by decide) (by omega))
  refine ok_clR h_r1 ?_
  dsimp only at p_r1
  exact ok_ret ⟨hI, hA, (show (0 : Int) ≤ r1.toInt ∧ r1.toInt ≤ (92100 : Int) from (by omega)), (by show (I 37).toInt ≤ (I 1).toInt ∧ aa < (I 37).toInt; omega), q2⟩
theorem t_readTag_457 {aa : Int} {I : Nat → Int32} {A : Nat → Nat → Int32} {x1 : Int32} (hI : TJ I) (hA : TK A) (r_x1 : (0 : Int) ≤ x1.toInt ∧ x1.toInt ≤ (1 : Int)) (q0 : (I 37).toInt ≤ (I 1).toInt) (q1 : aa < (I 37).toInt) (q2 : (I 29).toInt ≤ 1999) (q3 : (A 18 (x1).toNatClampNeg).toInt ≤ 7) : Ok (f_readTag_457 x1 I A) (fun o => TJ o.2.1 ∧ TK o.2.2 ∧ ((0 : Int) ≤ o.1.toInt ∧ o.1.toInt ≤ (92100 : Int)) ∧ ((o.2.1 37).toInt ≤ (o.2.1 1).toInt ∧ aa < (o.2.1 37).toInt) ∧ ((o.2.1 29).toInt ≤ 1999)) := by
  unfold f_readTag_457
  have b_I_1 := tI_1 hI
  have b_I_37 := tI_37 hI
  have b_I_29 := tI_29 hI
  refine ok_chk (ti_in (by omega) (by omega)) ?_
  refine ok_bnd (fun v1 e132 => ?_)
  have b_v1 := tA_18 hA ((x1).toNatClampNeg)
  rw [← e132] at b_v1
  have l1 : v1.toInt ≤ 7 := by rw [e132]; exact q3
  refine ok_bnd (fun v2 e133 => ?_)
  have t_v2 : v2.toInt = v1.toInt + 1 := ti_add e133 rfl (show (1 : Int32).toInt = 1 from rfl) (by omega) (by omega)
  refine ok_chk (ti_in (by omega) (by omega)) ?_
  refine ok_bnd (fun A3 e134 => ?_)
  have hA_A3 : TK A3 := e134.symm ▸ tk_u hA (j := 18) (show (0 : Int) ≤ v2.toInt from (by omega)) (show v2.toInt ≤ (8 : Int) from (by omega))
  exact ok_ret ⟨hI, hA_A3, (show (0 : Int) ≤ (0 : Int32).toInt ∧ (0 : Int32).toInt ≤ (92100 : Int) from (by decide)), (by show (I 37).toInt ≤ (I 1).toInt ∧ aa < (I 37).toInt; have z : (0 : Int32).toInt = 0 := rfl; omega), q2⟩
theorem t_readTag_250 {aa : Int} {I : Nat → Int32} {A : Nat → Nat → Int32} (hI : TJ I) (hA : TK A) (q0 : (I 37).toInt ≤ (I 1).toInt) (q1 : aa < (I 37).toInt) (q2 : (I 29).toInt ≤ 1999) : Ok (f_readTag_250 I A) (fun o => TJ o.2.1 ∧ TK o.2.2 ∧ ((0 : Int) ≤ o.1.toInt ∧ o.1.toInt ≤ (92100 : Int)) ∧ ((o.2.1 37).toInt ≤ (o.2.1 1).toInt ∧ aa < (o.2.1 37).toInt) ∧ ((o.2.1 29).toInt ≤ 1999)) := by
  unfold f_readTag_250
  have b_I_1 := tI_1 hI
  have b_I_37 := tI_37 hI
  have b_I_29 := tI_29 hI
  obtain ⟨r1, h_r1, p_r1⟩ := ro (t_fault (x0 := (1 : Int32)) (x1 := (I 37))  hI hA (by decide) (by omega))
  refine ok_clR h_r1 ?_
  dsimp only at p_r1
  exact ok_ret ⟨hI, hA, (show (0 : Int) ≤ r1.toInt ∧ r1.toInt ≤ (92100 : Int) from (by omega)), (by show (I 37).toInt ≤ (I 1).toInt ∧ aa < (I 37).toInt; omega), q2⟩
theorem t_readTag_293 {aa : Int} {I : Nat → Int32} {A : Nat → Nat → Int32} {self175 : Int32 → Int32 → Int32 → Int32 → Int32 → Int32 → (Nat → Int32) → (Nat → Nat → Int32) → Option (Int32 × MS)} {N175 : Nat} (hself175 : ∀ (x1 : Int32) (x2 : Int32) (x3 : Int32) (x4 : Int32) (x5 : Int32) (x6 : Int32) (I : Nat → Int32) (A : Nat → Nat → Int32), TJ I → TK A → ((0 : Int) ≤ x1.toInt ∧ x1.toInt ≤ (1 : Int)) → ((0 : Int) ≤ x2.toInt ∧ x2.toInt ≤ (2000 : Int)) → ((0 : Int) ≤ x3.toInt ∧ x3.toInt ≤ (8 : Int)) → ((0 : Int) ≤ x4.toInt ∧ x4.toInt ≤ (1 : Int)) → ((0 : Int) ≤ x5.toInt ∧ x5.toInt ≤ (2100 : Int)) → ((0 : Int) ≤ x6.toInt ∧ x6.toInt ≤ (2100 : Int)) → ((I 37).toInt ≤ (I 1).toInt) → (aa < (I 37).toInt) → ((I 29).toInt ≤ 1999) → (x6.toInt ≤ (I 37).toInt) → (x4.toInt = 0 → x3.toInt ≤ 7) → (cE A (x1).toNatClampNeg x3.toInt) → ((I 1).toInt - (I 37).toInt) < (N175 : Int) → Ok (self175 x1 x2 x3 x4 x5 x6 I A) (fun o => TJ o.2.1 ∧ TK o.2.2 ∧ ((0 : Int) ≤ o.1.toInt ∧ o.1.toInt ≤ (92100 : Int)) ∧ ((o.2.1 37).toInt ≤ (o.2.1 1).toInt ∧ aa < (o.2.1 37).toInt) ∧ ((o.2.1 29).toInt ≤ 1999))) {x1 : Int32} {x2 : Int32} {x3 : Int32} {x4 : Int32} {x5 : Int32} {x6 : Int32} (hI : TJ I) (hA : TK A) (r_x1 : (0 : Int) ≤ x1.toInt ∧ x1.toInt ≤ (1 : Int)) (r_x2 : (0 : Int) ≤ x2.toInt ∧ x2.toInt ≤ (2000 : Int)) (r_x3 : (0 : Int) ≤ x3.toInt ∧ x3.toInt ≤ (8 : Int)) (r_x4 : (0 : Int) ≤ x4.toInt ∧ x4.toInt ≤ (1 : Int)) (r_x5 : (0 : Int) ≤ x5.toInt ∧ x5.toInt ≤ (2100 : Int)) (r_x6 : (0 : Int) ≤ x6.toInt ∧ x6.toInt ≤ (2100 : Int)) (q0 : (I 37).toInt < (I 1).toInt) (q1 : aa < (I 37).toInt) (q2 : (I 29).toInt ≤ 1999) (q3 : x6.toInt ≤ (I 37).toInt) (q4 : x4.toInt = 0 → x3.toInt ≤ 7) (q5 : cE A (x1).toNatClampNeg x3.toInt) (m175 : ((I 1).toInt - (I 37).toInt) ≤ (N175 : Int)) : Ok (f_readTag_293 self175 x1 x2 x3 x4 x5 x6 I A) (fun o => TJ o.2.1 ∧ TK o.2.2 ∧ ((0 : Int) ≤ o.1.toInt ∧ o.1.toInt ≤ (92100 : Int)) ∧ ((o.2.1 37).toInt ≤ (o.2.1 1).toInt ∧ aa < (o.2.1 37).toInt) ∧ ((o.2.1 29).toInt ≤ 1999)) := by
  unfold f_readTag_293
  have b_I_1 := tI_1 hI
  have b_I_37 := tI_37 hI
  have b_I_29 := tI_29 hI
  refine ok_bnd (fun v1 e135 => ?_)
  have t_v1 : v1.toInt = x6.toInt + 1 := ti_add e135 rfl (show (1 : Int32).toInt = 1 from rfl) (by omega) (by omega)
  refine ok_bnd (fun v2 e136 => ?_)
  have t_v2 : v2.toInt = (I 37).toInt + 1 := ti_add e136 rfl (show (1 : Int32).toInt = 1 from rfl) (by omega) (by omega)
  refine ok_bnd (fun I3 e137 => ?_)
  have hI_I3 : TJ I3 := e137.symm ▸ tj_u hI (k := 37) (show (0 : Int) ≤ v2.toInt from (by omega)) (show v2.toInt ≤ (2100 : Int) from (by omega))
  have : (I3 1).toInt = (I 1).toInt := by rw [e137]; rfl
  have : (I3 37).toInt = v2.toInt := by rw [e137]; exact rfl
  have : (I3 29).toInt = (I 29).toInt := by rw [e137]; rfl
  have b_I3_1 := tI_1 hI_I3
  have b_I3_37 := tI_37 hI_I3
  have b_I3_29 := tI_29 hI_I3
  exact hself175 x1 x2 x3 x4 x5 v1 I3 A hI_I3 hA r_x1 r_x2 r_x3 r_x4 r_x5 (by omega) (by omega) (by omega) (by omega) (by omega) q4 q5 (by omega)
theorem t_readTag_230 {aa : Int} {I : Nat → Int32} {A : Nat → Nat → Int32} {self175 : Int32 → Int32 → Int32 → Int32 → Int32 → Int32 → (Nat → Int32) → (Nat → Nat → Int32) → Option (Int32 × MS)} {N175 : Nat} (hself175 : ∀ (x1 : Int32) (x2 : Int32) (x3 : Int32) (x4 : Int32) (x5 : Int32) (x6 : Int32) (I : Nat → Int32) (A : Nat → Nat → Int32), TJ I → TK A → ((0 : Int) ≤ x1.toInt ∧ x1.toInt ≤ (1 : Int)) → ((0 : Int) ≤ x2.toInt ∧ x2.toInt ≤ (2000 : Int)) → ((0 : Int) ≤ x3.toInt ∧ x3.toInt ≤ (8 : Int)) → ((0 : Int) ≤ x4.toInt ∧ x4.toInt ≤ (1 : Int)) → ((0 : Int) ≤ x5.toInt ∧ x5.toInt ≤ (2100 : Int)) → ((0 : Int) ≤ x6.toInt ∧ x6.toInt ≤ (2100 : Int)) → ((I 37).toInt ≤ (I 1).toInt) → (aa < (I 37).toInt) → ((I 29).toInt ≤ 1999) → (x6.toInt ≤ (I 37).toInt) → (x4.toInt = 0 → x3.toInt ≤ 7) → (cE A (x1).toNatClampNeg x3.toInt) → ((I 1).toInt - (I 37).toInt) < (N175 : Int) → Ok (self175 x1 x2 x3 x4 x5 x6 I A) (fun o => TJ o.2.1 ∧ TK o.2.2 ∧ ((0 : Int) ≤ o.1.toInt ∧ o.1.toInt ≤ (92100 : Int)) ∧ ((o.2.1 37).toInt ≤ (o.2.1 1).toInt ∧ aa < (o.2.1 37).toInt) ∧ ((o.2.1 29).toInt ≤ 1999))) {x1 : Int32} {x2 : Int32} {x3 : Int32} {x4 : Int32} {x5 : Int32} {x6 : Int32} (hI : TJ I) (hA : TK A) (r_x1 : (0 : Int) ≤ x1.toInt ∧ x1.toInt ≤ (1 : Int)) (r_x2 : (0 : Int) ≤ x2.toInt ∧ x2.toInt ≤ (2000 : Int)) (r_x3 : (0 : Int) ≤ x3.toInt ∧ x3.toInt ≤ (8 : Int)) (r_x4 : (0 : Int) ≤ x4.toInt ∧ x4.toInt ≤ (1 : Int)) (r_x5 : (0 : Int) ≤ x5.toInt ∧ x5.toInt ≤ (2100 : Int)) (r_x6 : (0 : Int) ≤ x6.toInt ∧ x6.toInt ≤ (2100 : Int)) (q0 : (I 37).toInt ≤ (I 1).toInt) (q1 : aa < (I 37).toInt) (q2 : (I 29).toInt ≤ 1999) (q3 : x6.toInt ≤ (I 37).toInt) (q4 : x4.toInt = 0 → x3.toInt ≤ 7) (q5 : cE A (x1).toNatClampNeg x3.toInt) (m175 : ((I 1).toInt - (I 37).toInt) ≤ (N175 : Int)) : Ok (f_readTag_230 self175 x1 x2 x3 x4 x5 x6 I A) (fun o => TJ o.2.1 ∧ TK o.2.2 ∧ ((0 : Int) ≤ o.1.toInt ∧ o.1.toInt ≤ (92100 : Int)) ∧ ((o.2.1 37).toInt ≤ (o.2.1 1).toInt ∧ aa < (o.2.1 37).toInt) ∧ ((o.2.1 29).toInt ≤ 1999)) := by
  unfold f_readTag_230
  have b_I_1 := tI_1 hI
  have b_I_37 := tI_37 hI
  have b_I_29 := tI_29 hI
  refine ok_if (fun c138 => ?_) (fun c138 => ?_)
  ·
    replace c138 := ti_eqP c138 rfl rfl
    exact t_readTag_250 (aa := aa)    hI hA q0 q1 q2
  ·
    replace c138 := ti_eqN c138 rfl rfl
    obtain ⟨r1, h_r1, p_r1⟩ := ro (t_look   hI hA )
    refine ok_clR h_r1 ?_
    dsimp only at p_r1
    refine ok_if (fun c139 => ?_) (fun c139 => ?_)
    ·
      replace c139 := ti_eqP c139 rfl (show (10 : Int32).toInt = 10 from rfl)
      exact t_readTag_250 (aa := aa)    hI hA q0 q1 q2
    ·
      replace c139 := ti_eqN c139 rfl (show (10 : Int32).toInt = 10 from rfl)
      refine ok_if (fun c140 => ?_) (fun c140 => ?_)
      ·
        replace c140 := ti_leP c140 (show (96 : Int32).toInt = 96 from rfl) rfl
        exact t_readTag_293 (aa := aa)  hself175 (x1 := x1) (x2 := x2) (x3 := x3) (x4 := x4) (x5 := x5) (x6 := x6) hI hA r_x1 r_x2 r_x3 r_x4 r_x5 r_x6 (by omega) q1 q2 q3 q4 q5 m175
      ·
        replace c140 := ti_leN c140 (show (96 : Int32).toInt = 96 from rfl) rfl
        refine ok_if (fun c141 => ?_) (fun c141 => ?_)
        ·
          replace c141 := ti_eqP c141 rfl (show (0 : Int32).toInt = 0 from rfl)
          refine ok_bnd (fun v2 e142 => ?_)
          have t_v2 : v2.toInt = 768 * x1.toInt := ti_mul e142 (show (768 : Int32).toInt = 768 from rfl) rfl (by omega) (by omega)
          refine ok_bnd (fun v3 e143 => ?_)
          have t_v3 : v3.toInt = 96 * x3.toInt := ti_mul e143 (show (96 : Int32).toInt = 96 from rfl) rfl (by omega) (by omega)
          refine ok_bnd (fun v4 e144 => ?_)
          have t_v4 : v4.toInt = v2.toInt + v3.toInt := ti_add e144 rfl rfl (by omega) (by omega)
          refine ok_bnd (fun v5 e145 => ?_)
          have t_v5 : v5.toInt = v4.toInt + x6.toInt := ti_add e145 rfl rfl (by omega) (by omega)
          obtain ⟨r6, h_r6, p_r6⟩ := ro (t_look   hI hA )
          refine ok_clR h_r6 ?_
          dsimp only at p_r6
          refine ok_chk (ti_in (by omega) (by omega)) ?_
          refine ok_bnd (fun A7 e146 => ?_)
          have hA_A7 : TK A7 := e146.symm ▸ tk_n hA rfl
          have k147 : cE A7 (x1).toNatClampNeg x3.toInt := cE_fr (show A7 18 = A 18 by rw [e146]; exact va_up_ne _ _ (by decide)) q5
          exact t_readTag_293 (aa := aa)  hself175 (x1 := x1) (x2 := x2) (x3 := x3) (x4 := x4) (x5 := x5) (x6 := x6) hI hA_A7 r_x1 r_x2 r_x3 r_x4 r_x5 r_x6 (by omega) q1 q2 q3 q4 k147 m175
        ·
          replace c141 := ti_eqN c141 rfl (show (0 : Int32).toInt = 0 from rfl)
          exact t_readTag_293 (aa := aa)  hself175 (x1 := x1) (x2 := x2) (x3 := x3) (x4 := x4) (x5 := x5) (x6 := x6) hI hA r_x1 r_x2 r_x3 r_x4 r_x5 r_x6 (by omega) q1 q2 q3 q4 q5 m175
theorem t_readTag_175s {aa : Int} {I : Nat → Int32} {A : Nat → Nat → Int32} {self175 : Int32 → Int32 → Int32 → Int32 → Int32 → Int32 → (Nat → Int32) → (Nat → Nat → Int32) → Option (Int32 × MS)} {N175 : Nat} (hself175 : ∀ (x1 : Int32) (x2 : Int32) (x3 : Int32) (x4 : Int32) (x5 : Int32) (x6 : Int32) (I : Nat → Int32) (A : Nat → Nat → Int32), TJ I → TK A → ((0 : Int) ≤ x1.toInt ∧ x1.toInt ≤ (1 : Int)) → ((0 : Int) ≤ x2.toInt ∧ x2.toInt ≤ (2000 : Int)) → ((0 : Int) ≤ x3.toInt ∧ x3.toInt ≤ (8 : Int)) → ((0 : Int) ≤ x4.toInt ∧ x4.toInt ≤ (1 : Int)) → ((0 : Int) ≤ x5.toInt ∧ x5.toInt ≤ (2100 : Int)) → ((0 : Int) ≤ x6.toInt ∧ x6.toInt ≤ (2100 : Int)) → ((I 37).toInt ≤ (I 1).toInt) → (aa < (I 37).toInt) → ((I 29).toInt ≤ 1999) → (x6.toInt ≤ (I 37).toInt) → (x4.toInt = 0 → x3.toInt ≤ 7) → (cE A (x1).toNatClampNeg x3.toInt) → ((I 1).toInt - (I 37).toInt) < (N175 : Int) → Ok (self175 x1 x2 x3 x4 x5 x6 I A) (fun o => TJ o.2.1 ∧ TK o.2.2 ∧ ((0 : Int) ≤ o.1.toInt ∧ o.1.toInt ≤ (92100 : Int)) ∧ ((o.2.1 37).toInt ≤ (o.2.1 1).toInt ∧ aa < (o.2.1 37).toInt) ∧ ((o.2.1 29).toInt ≤ 1999))) {x1 : Int32} {x2 : Int32} {x3 : Int32} {x4 : Int32} {x5 : Int32} {x6 : Int32} (hI : TJ I) (hA : TK A) (r_x1 : (0 : Int) ≤ x1.toInt ∧ x1.toInt ≤ (1 : Int)) (r_x2 : (0 : Int) ≤ x2.toInt ∧ x2.toInt ≤ (2000 : Int)) (r_x3 : (0 : Int) ≤ x3.toInt ∧ x3.toInt ≤ (8 : Int)) (r_x4 : (0 : Int) ≤ x4.toInt ∧ x4.toInt ≤ (1 : Int)) (r_x5 : (0 : Int) ≤ x5.toInt ∧ x5.toInt ≤ (2100 : Int)) (r_x6 : (0 : Int) ≤ x6.toInt ∧ x6.toInt ≤ (2100 : Int)) (q0 : (I 37).toInt ≤ (I 1).toInt) (q1 : aa < (I 37).toInt) (q2 : (I 29).toInt ≤ 1999) (q3 : x6.toInt ≤ (I 37).toInt) (q4 : x4.toInt = 0 → x3.toInt ≤ 7) (q5 : cE A (x1).toNatClampNeg x3.toInt) (m175 : ((I 1).toInt - (I 37).toInt) ≤ (N175 : Int)) : Ok (f_readTag_175s self175 x1 x2 x3 x4 x5 x6 I A) (fun o => TJ o.2.1 ∧ TK o.2.2 ∧ ((0 : Int) ≤ o.1.toInt ∧ o.1.toInt ≤ (92100 : Int)) ∧ ((o.2.1 37).toInt ≤ (o.2.1 1).toInt ∧ aa < (o.2.1 37).toInt) ∧ ((o.2.1 29).toInt ≤ 1999)) := by
  unfold f_readTag_175s
  have b_I_1 := tI_1 hI
  have b_I_37 := tI_37 hI
  have b_I_29 := tI_29 hI
  obtain ⟨r1, h_r1, p_r1⟩ := ro (t_look   hI hA )
  refine ok_clR h_r1 ?_
  dsimp only at p_r1
  refine ok_if (fun c148 => ?_) (fun c148 => ?_)
  ·
    replace c148 := ti_eqP c148 rfl (show (34 : Int32).toInt = 34 from rfl)
    refine ok_bnd (fun v2 e149 => ?_)
    have t_v2 : v2.toInt = (I 37).toInt + 1 := ti_add e149 rfl (show (1 : Int32).toInt = 1 from rfl) (by omega) (by omega)
    refine ok_bnd (fun I3 e150 => ?_)
    have hI_I3 : TJ I3 := e150.symm ▸ tj_u hI (k := 37) (show (0 : Int) ≤ v2.toInt from (by omega)) (show v2.toInt ≤ (2100 : Int) from (by omega))
    have : (I3 1).toInt = (I 1).toInt := by rw [e150]; rfl
    have : (I3 37).toInt = v2.toInt := by rw [e150]; exact rfl
    have : (I3 29).toInt = (I 29).toInt := by rw [e150]; rfl
    have b_I3_1 := tI_1 hI_I3
    have b_I3_37 := tI_37 hI_I3
    obtain ⟨⟨r4, Ic4, Ac4⟩, h_r4, hI_Ic4, hA_Ac4, p_r4_0⟩ := t_blanks   hI_I3 hA (show (I3 37).toInt ≤ (I3 37).toInt ∧ (I3 37).toInt ≤ (I3 1).toInt ∧ (I3 1).toInt ≤ (I3 1).toInt from ⟨Int.le_refl _, by omega, Int.le_refl _⟩)
    replace hI_Ic4 : TJ Ic4 := hI_Ic4
    replace hA_Ac4 : TK Ac4 := hA_Ac4
    dsimp only at p_r4_0
    refine ok_clR h_r4 ?_
    have f_r4 := fw_blanks h_r4
    have : (Ic4 1).toInt = (I3 1).toInt := congrArg Int32.toInt (f_r4.1 1 (by decide))
    have : (Ic4 29).toInt = (I3 29).toInt := congrArg Int32.toInt (f_r4.1 29 (by decide))
    have k151 : cE Ac4 (x1).toNatClampNeg x3.toInt := cE_fr (f_r4.2 18 (by decide)) q5
    obtain ⟨r5, h_r5, p_r5⟩ := ro (t_look   hI_Ic4 hA_Ac4 )
    refine ok_clR h_r5 ?_
    dsimp only at p_r5
    refine ok_if (fun c152 => ?_) (fun c152 => ?_)
    ·
      replace c152 := ti_eqP c152 rfl (show (93 : Int32).toInt = 93 from rfl)
      refine ok_bnd (fun v6 e153 => ?_)
      have b_Ic4_37 := tI_37 hI_Ic4
      have t_v6 : v6.toInt = (Ic4 37).toInt + 1 := ti_add e153 rfl (show (1 : Int32).toInt = 1 from rfl) (by omega) (by omega)
      refine ok_bnd (fun I7 e154 => ?_)
      have hI_I7 : TJ I7 := e154.symm ▸ tj_u hI_Ic4 (k := 37) (show (0 : Int) ≤ v6.toInt from (by omega)) (show v6.toInt ≤ (2100 : Int) from (by omega))
      have : (I7 1).toInt = (Ic4 1).toInt := by rw [e154]; rfl
      have : (I7 37).toInt = v6.toInt := by rw [e154]; exact rfl
      have : (I7 29).toInt = (Ic4 29).toInt := by rw [e154]; rfl
      refine ok_if (fun c155 => ?_) (fun c155 => ?_)
      ·
        replace c155 := ti_eqP c155 rfl (show (0 : Int32).toInt = 0 from rfl)
        refine ok_if (fun c156 => ?_) (fun c156 => ?_)
        ·
          replace c156 := ti_ltP c156 (show (12 : Int32).toInt = 12 from rfl) rfl
          have b_I7_1 := tI_1 hI_I7
          have b_I7_37 := tI_37 hI_I7
          have b_I7_29 := tI_29 hI_I7
          exact t_readTag_370 (aa := aa)   (x2 := x2) hI_I7 hA_Ac4 r_x2 (by omega) (by omega) (by omega)
        ·
          replace c156 := ti_ltN c156 (show (12 : Int32).toInt = 12 from rfl) rfl
          refine ok_if (fun c157 => ?_) (fun c157 => ?_)
          ·
            replace c157 := ti_leP c157 rfl (show (96 : Int32).toInt = 96 from rfl)
            refine ok_bnd (fun v8 e158 => ?_)
            have t_v8 : v8.toInt = 8 * x1.toInt := ti_mul e158 (show (8 : Int32).toInt = 8 from rfl) rfl (by omega) (by omega)
            refine ok_bnd (fun v9 e159 => ?_)
            have t_v9 : v9.toInt = v8.toInt + x3.toInt := ti_add e159 rfl rfl (by omega) (by omega)
            refine ok_chk (ti_in (by omega) (by omega)) ?_
            refine ok_bnd (fun A10 e160 => ?_)
            have hA_A10 : TK A10 := e160.symm ▸ tk_u hA_Ac4 (j := 19) (show (0 : Int) ≤ x5.toInt from (by omega)) (show x5.toInt ≤ (12 : Int) from (by omega))
            have k161 : cE A10 (x1).toNatClampNeg x3.toInt := cE_fr (show A10 18 = Ac4 18 by rw [e160]; exact va_up_ne _ _ (by decide)) k151
            refine ok_bnd (fun v11 e162 => ?_)
            have t_v11 : v11.toInt = 8 * x1.toInt := ti_mul e162 (show (8 : Int32).toInt = 8 from rfl) rfl (by omega) (by omega)
            refine ok_bnd (fun v12 e163 => ?_)
            have t_v12 : v12.toInt = v11.toInt + x3.toInt := ti_add e163 rfl rfl (by omega) (by omega)
            refine ok_chk (ti_in (by omega) (by omega)) ?_
            refine ok_bnd (fun A13 e164 => ?_)
            have hA_A13 : TK A13 := e164.symm ▸ tk_u hA_A10 (j := 21) (show (0 : Int) ≤ x6.toInt from (by omega)) (show x6.toInt ≤ (96 : Int) from (by omega))
            have k165 : cE A13 (x1).toNatClampNeg x3.toInt := cE_fr (show A13 18 = A10 18 by rw [e164]; exact va_up_ne _ _ (by decide)) k161
            obtain ⟨r14, h_r14, p_r14⟩ := ro (t_isNameThere (x1 := x1) (x2 := x3)  hI_I7 hA_A13 r_x1 (by omega))
            refine ok_clR h_r14 ?_
            dsimp only at p_r14
            refine ok_if (fun c166 => ?_) (fun c166 => ?_)
            ·
              replace c166 := ti_eqP c166 rfl (show (0 : Int32).toInt = 0 from rfl)
              obtain ⟨r15, h_r15, p_r15⟩ := ro (t_isTag (x1 := x3) (x2 := x1) (x3 := (0 : Int32))  hI_I7 hA_A13 (by omega) r_x1 (by decide))
              refine ok_clR h_r15 ?_
              dsimp only at p_r15
              refine ok_if (fun c167 => ?_) (fun c167 => ?_)
              ·
                replace c167 := ti_eqP c167 rfl (show (0 : Int32).toInt = 0 from rfl)
                have b_I7_1 := tI_1 hI_I7
                have b_I7_37 := tI_37 hI_I7
                have b_I7_29 := tI_29 hI_I7
                exact t_readTag_457 (aa := aa)   (x1 := x1) hI_I7 hA_A13 r_x1 (by omega) (by omega) (by omega) (by have z := k165; unfold cE at z; omega)
              ·
                replace c167 := ti_eqN c167 rfl (show (0 : Int32).toInt = 0 from rfl)
                refine ok_bnd (fun v16 e168 => ?_)
                have t_v16 : v16.toInt = 768 * x1.toInt := ti_mul e168 (show (768 : Int32).toInt = 768 from rfl) rfl (by omega) (by omega)
                refine ok_bnd (fun v17 e169 => ?_)
                have t_v17 : v17.toInt = 96 * x3.toInt := ti_mul e169 (show (96 : Int32).toInt = 96 from rfl) rfl (by omega) (by omega)
                refine ok_bnd (fun v18 e170 => ?_)
                have t_v18 : v18.toInt = v16.toInt + v17.toInt := ti_add e170 rfl rfl (by omega) (by omega)
                have b_I7_29 := tI_29 hI_I7
                obtain ⟨⟨r19, Ic19, Ac19⟩, h_r19, hI_Ic19, hA_Ac19, p_r19, p_r19_0, p_r19_1⟩ := t_readPosition (x1 := v18) (x2 := x6)  hI_I7 hA_A13 (by omega) (by omega) (by omega) (by omega)
                replace hI_Ic19 : TJ Ic19 := hI_Ic19
                replace hA_Ac19 : TK Ac19 := hA_Ac19
                dsimp only at p_r19 p_r19_0 p_r19_1
                refine ok_clR h_r19 ?_
                have f_r19 := fw_readPosition h_r19
                have : (Ic19 1).toInt = (I7 1).toInt := congrArg Int32.toInt (f_r19.1 1 (by decide))
                have : (Ic19 37).toInt = (I7 37).toInt := congrArg Int32.toInt (f_r19.1 37 (by decide))
                have k171 : cE Ac19 (x1).toNatClampNeg x3.toInt := cE_fr (f_r19.2 18 (by decide)) k165
                refine ok_if (fun c172 => ?_) (fun c172 => ?_)
                ·
                  replace c172 := ti_eqP c172 rfl (show (0 : Int32).toInt = 0 from rfl)
                  obtain ⟨r21, h_r21, p_r21⟩ := ro (t_fault (x0 := (3 : Int32)) (x1 := x2)  hI_Ic19 hA_Ac19 (by decide) (by omega))
                  refine ok_clR h_r21 ?_
                  dsimp only at p_r21
                  exact ok_ret ⟨hI_Ic19, hA_Ac19, (show (0 : Int) ≤ r21.toInt ∧ r21.toInt ≤ (92100 : Int) from (by omega)), (by show (Ic19 37).toInt ≤ (Ic19 1).toInt ∧ aa < (Ic19 37).toInt; omega), (by show (Ic19 29).toInt ≤ 1999; omega)⟩
                ·
                  replace c172 := ti_eqN c172 rfl (show (0 : Int32).toInt = 0 from rfl)
                  have b_Ic19_29 := tI_29 hI_Ic19
                  obtain ⟨⟨r20, Ic20, Ac20⟩, h_r20, hI_Ic20, hA_Ac20, -⟩ := t_start (x1 := x1)  hI_Ic19 hA_Ac19 r_x1 (by omega)
                  replace hI_Ic20 : TJ Ic20 := hI_Ic20
                  replace hA_Ac20 : TK Ac20 := hA_Ac20
                  refine ok_clR h_r20 ?_
                  have f_r20 := fw_start h_r20
                  have : (Ic20 1).toInt = (Ic19 1).toInt := congrArg Int32.toInt (f_r20.1 1 (by decide))
                  have : (Ic20 37).toInt = (Ic19 37).toInt := congrArg Int32.toInt (f_r20.1 37 (by decide))
                  have : (Ic20 29).toInt = (Ic19 29).toInt := congrArg Int32.toInt (f_r20.1 29 (by decide))
                  have k173 : cE Ac20 (x1).toNatClampNeg x3.toInt := cE_fr (f_r20.2 18 (by decide)) k171
                  have b_Ic20_1 := tI_1 hI_Ic20
                  have b_Ic20_37 := tI_37 hI_Ic20
                  have b_Ic20_29 := tI_29 hI_Ic20
                  exact t_readTag_457 (aa := aa)   (x1 := x1) hI_Ic20 hA_Ac20 r_x1 (by omega) (by omega) (by omega) (by have z := k173; unfold cE at z; omega)
            ·
              replace c166 := ti_eqN c166 rfl (show (0 : Int32).toInt = 0 from rfl)
              obtain ⟨r22, h_r22, p_r22⟩ := ro (t_fault (x0 := (2 : Int32)) (x1 := x2)  hI_I7 hA_A13 (by decide) (by omega))
              refine ok_clR h_r22 ?_
              dsimp only at p_r22
              exact ok_ret ⟨hI_I7, hA_A13, (show (0 : Int) ≤ r22.toInt ∧ r22.toInt ≤ (92100 : Int) from (by omega)), (by show (I7 37).toInt ≤ (I7 1).toInt ∧ aa < (I7 37).toInt; omega), (by show (I7 29).toInt ≤ 1999; omega)⟩
          ·
            replace c157 := ti_leN c157 rfl (show (96 : Int32).toInt = 96 from rfl)
            have b_I7_1 := tI_1 hI_I7
            have b_I7_37 := tI_37 hI_I7
            have b_I7_29 := tI_29 hI_I7
            exact t_readTag_370 (aa := aa)   (x2 := x2) hI_I7 hA_Ac4 r_x2 (by omega) (by omega) (by omega)
      ·
        replace c155 := ti_eqN c155 rfl (show (0 : Int32).toInt = 0 from rfl)
        have b_I7_1 := tI_1 hI_I7
        have b_I7_37 := tI_37 hI_I7
        have b_I7_29 := tI_29 hI_I7
        exact t_readTag_370 (aa := aa)   (x2 := x2) hI_I7 hA_Ac4 r_x2 (by omega) (by omega) (by omega)
    ·
      replace c152 := ti_eqN c152 rfl (show (93 : Int32).toInt = 93 from rfl)
      have b_Ic4_37 := tI_37 hI_Ic4
      obtain ⟨r23, h_r23, p_r23⟩ := ro (t_fault (x0 := (1 : Int32)) (x1 := (Ic4 37))  hI_Ic4 hA_Ac4 (by decide) (by omega))
      refine ok_clR h_r23 ?_
      dsimp only at p_r23
      exact ok_ret ⟨hI_Ic4, hA_Ac4, (show (0 : Int) ≤ r23.toInt ∧ r23.toInt ≤ (92100 : Int) from (by omega)), (by show (Ic4 37).toInt ≤ (Ic4 1).toInt ∧ aa < (Ic4 37).toInt; omega), (by show (Ic4 29).toInt ≤ 1999; omega)⟩
  ·
    replace c148 := ti_eqN c148 rfl (show (34 : Int32).toInt = 34 from rfl)
    obtain ⟨r24, h_r24, p_r24⟩ := ro (t_look   hI hA )
    refine ok_clR h_r24 ?_
    dsimp only at p_r24
    refine ok_if (fun c174 => ?_) (fun c174 => ?_)
    ·
      replace c174 := ti_eqP c174 rfl (show (92 : Int32).toInt = 92 from rfl)
      refine ok_bnd (fun v25 e175 => ?_)
      have t_v25 : v25.toInt = (I 37).toInt + 1 := ti_add e175 rfl (show (1 : Int32).toInt = 1 from rfl) (by omega) (by omega)
      refine ok_bnd (fun I26 e176 => ?_)
      have hI_I26 : TJ I26 := e176.symm ▸ tj_u hI (k := 37) (show (0 : Int) ≤ v25.toInt from (by omega)) (show v25.toInt ≤ (2100 : Int) from (by omega))
      have : (I26 1).toInt = (I 1).toInt := by rw [e176]; rfl
      have : (I26 37).toInt = v25.toInt := by rw [e176]; exact rfl
      have : (I26 29).toInt = (I 29).toInt := by rw [e176]; rfl
      obtain ⟨r27, h_r27, p_r27⟩ := ro (t_look   hI_I26 hA )
      refine ok_clR h_r27 ?_
      dsimp only at p_r27
      refine ok_if (fun c177 => ?_) (fun c177 => ?_)
      ·
        replace c177 := ti_eqP c177 rfl (show (34 : Int32).toInt = 34 from rfl)
        have b_I26_1 := tI_1 hI_I26
        have b_I26_37 := tI_37 hI_I26
        have b_I26_29 := tI_29 hI_I26
        exact t_readTag_230 (aa := aa)  hself175 (x1 := x1) (x2 := x2) (x3 := x3) (x4 := x4) (x5 := x5) (x6 := x6) hI_I26 hA r_x1 r_x2 r_x3 r_x4 r_x5 r_x6 (by omega) (by omega) (by omega) (by omega) q4 q5 (by omega)
      ·
        replace c177 := ti_eqN c177 rfl (show (34 : Int32).toInt = 34 from rfl)
        obtain ⟨r28, h_r28, p_r28⟩ := ro (t_look   hI_I26 hA )
        refine ok_clR h_r28 ?_
        dsimp only at p_r28
        refine ok_if (fun c178 => ?_) (fun c178 => ?_)
        ·
          replace c178 := ti_eqP c178 rfl (show (92 : Int32).toInt = 92 from rfl)
          have b_I26_1 := tI_1 hI_I26
          have b_I26_37 := tI_37 hI_I26
          have b_I26_29 := tI_29 hI_I26
          exact t_readTag_230 (aa := aa)  hself175 (x1 := x1) (x2 := x2) (x3 := x3) (x4 := x4) (x5 := x5) (x6 := x6) hI_I26 hA r_x1 r_x2 r_x3 r_x4 r_x5 r_x6 (by omega) (by omega) (by omega) (by omega) q4 q5 (by omega)
        ·
          replace c178 := ti_eqN c178 rfl (show (92 : Int32).toInt = 92 from rfl)
          have b_I26_37 := tI_37 hI_I26
          obtain ⟨r29, h_r29, p_r29⟩ := ro (t_fault (x0 := (1 : Int32)) (x1 := (I26 37))  hI_I26 hA (by decide) (by omega))
          refine ok_clR h_r29 ?_
          dsimp only at p_r29
          exact ok_ret ⟨hI_I26, hA, (show (0 : Int) ≤ r29.toInt ∧ r29.toInt ≤ (92100 : Int) from (by omega)), (by show (I26 37).toInt ≤ (I26 1).toInt ∧ aa < (I26 37).toInt; omega), (by show (I26 29).toInt ≤ 1999; omega)⟩
    ·
      replace c174 := ti_eqN c174 rfl (show (92 : Int32).toInt = 92 from rfl)
      exact t_readTag_230 (aa := aa)  hself175 (x1 := x1) (x2 := x2) (x3 := x3) (x4 := x4) (x5 := x5) (x6 := x6) hI hA r_x1 r_x2 r_x3 r_x4 r_x5 r_x6 q0 q1 q2 q3 q4 q5 m175
theorem t_readTag_175 {aa : Int}  : ∀ (n : Nat) (x1 : Int32) (x2 : Int32) (x3 : Int32) (x4 : Int32) (x5 : Int32) (x6 : Int32) (I : Nat → Int32) (A : Nat → Nat → Int32), TJ I → TK A → ((0 : Int) ≤ x1.toInt ∧ x1.toInt ≤ (1 : Int)) → ((0 : Int) ≤ x2.toInt ∧ x2.toInt ≤ (2000 : Int)) → ((0 : Int) ≤ x3.toInt ∧ x3.toInt ≤ (8 : Int)) → ((0 : Int) ≤ x4.toInt ∧ x4.toInt ≤ (1 : Int)) → ((0 : Int) ≤ x5.toInt ∧ x5.toInt ≤ (2100 : Int)) → ((0 : Int) ≤ x6.toInt ∧ x6.toInt ≤ (2100 : Int)) → ((I 37).toInt ≤ (I 1).toInt) → (aa < (I 37).toInt) → ((I 29).toInt ≤ 1999) → (x6.toInt ≤ (I 37).toInt) → (x4.toInt = 0 → x3.toInt ≤ 7) → (cE A (x1).toNatClampNeg x3.toInt) → ((I 1).toInt - (I 37).toInt) < (n : Int) → Ok (f_readTag_175  n x1 x2 x3 x4 x5 x6 I A) (fun o => TJ o.2.1 ∧ TK o.2.2 ∧ ((0 : Int) ≤ o.1.toInt ∧ o.1.toInt ≤ (92100 : Int)) ∧ ((o.2.1 37).toInt ≤ (o.2.1 1).toInt ∧ aa < (o.2.1 37).toInt) ∧ ((o.2.1 29).toInt ≤ 1999)) := by
  intro n
  induction n with
  | zero => intro x1 x2 x3 x4 x5 x6 I A hI hA g0 g1 g2 g3 g4 g5 g6 g7 g8 g9 g10 g11  hm; exfalso; omega
  | succ n ih =>
    intro x1 x2 x3 x4 x5 x6 I A hI hA g0 g1 g2 g3 g4 g5 g6 g7 g8 g9 g10 g11  hm
    exact t_readTag_175s (aa := aa)  (N175 := n)  ih hI hA g0 g1 g2 g3 g4 g5 g6 g7 g8 g9 g10 g11  (by omega)
theorem t_readTag_71s {aa : Int} {I : Nat → Int32} {A : Nat → Nat → Int32} {self71 : Int32 → Int32 → Int32 → Int32 → Int32 → (Nat → Int32) → (Nat → Nat → Int32) → Option (Int32 × MS)} {N71 : Nat} (hself71 : ∀ (x1 : Int32) (x2 : Int32) (x3 : Int32) (x4 : Int32) (x5 : Int32) (I : Nat → Int32) (A : Nat → Nat → Int32), TJ I → TK A → ((0 : Int) ≤ x1.toInt ∧ x1.toInt ≤ (1 : Int)) → ((0 : Int) ≤ x2.toInt ∧ x2.toInt ≤ (2000 : Int)) → ((0 : Int) ≤ x3.toInt ∧ x3.toInt ≤ (8 : Int)) → ((0 : Int) ≤ x4.toInt ∧ x4.toInt ≤ (1 : Int)) → ((0 : Int) ≤ x5.toInt ∧ x5.toInt ≤ (2100 : Int)) → ((I 37).toInt ≤ (I 1).toInt) → (aa < (I 37).toInt) → ((I 29).toInt ≤ 1999) → (x5.toInt ≤ (I 37).toInt) → (x4.toInt = 0 → x3.toInt ≤ 7) → (cE A (x1).toNatClampNeg x3.toInt) → ((I 1).toInt - (I 37).toInt) < (N71 : Int) → Ok (self71 x1 x2 x3 x4 x5 I A) (fun o => TJ o.2.1 ∧ TK o.2.2 ∧ ((0 : Int) ≤ o.1.toInt ∧ o.1.toInt ≤ (92100 : Int)) ∧ ((o.2.1 37).toInt ≤ (o.2.1 1).toInt ∧ aa < (o.2.1 37).toInt) ∧ ((o.2.1 29).toInt ≤ 1999))) {x1 : Int32} {x2 : Int32} {x3 : Int32} {x4 : Int32} {x5 : Int32} (hI : TJ I) (hA : TK A) (r_x1 : (0 : Int) ≤ x1.toInt ∧ x1.toInt ≤ (1 : Int)) (r_x2 : (0 : Int) ≤ x2.toInt ∧ x2.toInt ≤ (2000 : Int)) (r_x3 : (0 : Int) ≤ x3.toInt ∧ x3.toInt ≤ (8 : Int)) (r_x4 : (0 : Int) ≤ x4.toInt ∧ x4.toInt ≤ (1 : Int)) (r_x5 : (0 : Int) ≤ x5.toInt ∧ x5.toInt ≤ (2100 : Int)) (q0 : (I 37).toInt ≤ (I 1).toInt) (q1 : aa < (I 37).toInt) (q2 : (I 29).toInt ≤ 1999) (q3 : x5.toInt ≤ (I 37).toInt) (q4 : x4.toInt = 0 → x3.toInt ≤ 7) (q5 : cE A (x1).toNatClampNeg x3.toInt) (m71 : ((I 1).toInt - (I 37).toInt) ≤ (N71 : Int)) : Ok (f_readTag_71s self71 x1 x2 x3 x4 x5 I A) (fun o => TJ o.2.1 ∧ TK o.2.2 ∧ ((0 : Int) ≤ o.1.toInt ∧ o.1.toInt ≤ (92100 : Int)) ∧ ((o.2.1 37).toInt ≤ (o.2.1 1).toInt ∧ aa < (o.2.1 37).toInt) ∧ ((o.2.1 29).toInt ≤ 1999)) := by
  unfold f_readTag_71s
  have b_I_1 := tI_1 hI
  have b_I_37 := tI_37 hI
  have b_I_29 := tI_29 hI
  obtain ⟨r1, h_r1, p_r1⟩ := ro (t_look   hI hA )
  refine ok_clR h_r1 ?_
  dsimp only at p_r1
  obtain ⟨r2, h_r2, p_r2⟩ := ro (t_isLetter (x0 := r1)  hI hA )
  refine ok_clR h_r2 ?_
  dsimp only at p_r2
  refine ok_if (fun c179 => ?_) (fun c179 => ?_)
  ·
    replace c179 := ti_eqP c179 rfl (show (0 : Int32).toInt = 0 from rfl)
    obtain ⟨r3, h_r3, p_r3⟩ := ro (t_look   hI hA )
    refine ok_clR h_r3 ?_
    dsimp only at p_r3
    obtain ⟨r4, h_r4, p_r4⟩ := ro (t_isDigit (x0 := r3)  hI hA )
    refine ok_clR h_r4 ?_
    dsimp only at p_r4
    refine ok_if (fun c180 => ?_) (fun c180 => ?_)
    ·
      replace c180 := ti_eqP c180 rfl (show (0 : Int32).toInt = 0 from rfl)
      obtain ⟨⟨r5, Ic5, Ac5⟩, h_r5, hI_Ic5, hA_Ac5, p_r5_0⟩ := t_blanks   hI hA (show (I 37).toInt ≤ (I 37).toInt ∧ (I 37).toInt ≤ (I 1).toInt ∧ (I 1).toInt ≤ (I 1).toInt from ⟨Int.le_refl _, by omega, Int.le_refl _⟩)
      replace hI_Ic5 : TJ Ic5 := hI_Ic5
      replace hA_Ac5 : TK Ac5 := hA_Ac5
      dsimp only at p_r5_0
      refine ok_clR h_r5 ?_
      have f_r5 := fw_blanks h_r5
      have : (Ic5 1).toInt = (I 1).toInt := congrArg Int32.toInt (f_r5.1 1 (by decide))
      have : (Ic5 29).toInt = (I 29).toInt := congrArg Int32.toInt (f_r5.1 29 (by decide))
      have k181 : cE Ac5 (x1).toNatClampNeg x3.toInt := cE_fr (f_r5.2 18 (by decide)) q5
      obtain ⟨r6, h_r6, p_r6⟩ := ro (t_look   hI_Ic5 hA_Ac5 )
      refine ok_clR h_r6 ?_
      dsimp only at p_r6
      refine ok_if (fun c182 => ?_) (fun c182 => ?_)
      ·
        replace c182 := ti_eqP c182 rfl (show (34 : Int32).toInt = 34 from rfl)
        refine ok_bnd (fun v7 e183 => ?_)
        have b_Ic5_37 := tI_37 hI_Ic5
        have t_v7 : v7.toInt = (Ic5 37).toInt + 1 := ti_add e183 rfl (show (1 : Int32).toInt = 1 from rfl) (by omega) (by omega)
        refine ok_bnd (fun I8 e184 => ?_)
        have hI_I8 : TJ I8 := e184.symm ▸ tj_u hI_Ic5 (k := 37) (show (0 : Int) ≤ v7.toInt from (by omega)) (show v7.toInt ≤ (2100 : Int) from (by omega))
        have : (I8 1).toInt = (Ic5 1).toInt := by rw [e184]; rfl
        have : (I8 37).toInt = v7.toInt := by rw [e184]; exact rfl
        have : (I8 29).toInt = (Ic5 29).toInt := by rw [e184]; rfl
        have b_I8_1 := tI_1 hI_I8
        have b_I8_37 := tI_37 hI_I8
        have b_I8_29 := tI_29 hI_I8
        exact t_readTag_175 (aa := aa)    mFuel x1 x2 x3 x4 x5 (0 : Int32) I8 Ac5 hI_I8 hA_Ac5 r_x1 r_x2 r_x3 r_x4 r_x5 (by decide) (by have z0 : (0 : Int32).toInt = 0 := rfl; omega) (by have z0 : (0 : Int32).toInt = 0 := rfl; omega) (by have z0 : (0 : Int32).toInt = 0 := rfl; omega) (by have z0 : (0 : Int32).toInt = 0 := rfl; omega) q4 k181 (by show _ < ((200000 : Nat) : Int); have z0 : (0 : Int32).toInt = 0 := rfl; omega)
      ·
        replace c182 := ti_eqN c182 rfl (show (34 : Int32).toInt = 34 from rfl)
        have b_Ic5_37 := tI_37 hI_Ic5
        obtain ⟨r9, h_r9, p_r9⟩ := ro (t_fault (x0 := (1 : Int32)) (x1 := (Ic5 37))  hI_Ic5 hA_Ac5 (by decide) (by omega))
        refine ok_clR h_r9 ?_
        dsimp only at p_r9
        exact ok_ret ⟨hI_Ic5, hA_Ac5, (show (0 : Int) ≤ r9.toInt ∧ r9.toInt ≤ (92100 : Int) from (by omega)), (by show (Ic5 37).toInt ≤ (Ic5 1).toInt ∧ aa < (Ic5 37).toInt; omega), (by show (Ic5 29).toInt ≤ 1999; omega)⟩
    ·
      replace c180 := ti_eqN c180 rfl (show (0 : Int32).toInt = 0 from rfl)
      exact t_readTag_91 (aa := aa)  hself71 (x1 := x1) (x2 := x2) (x3 := x3) (x4 := x4) (x5 := x5) hI hA r_x1 r_x2 r_x3 r_x4 r_x5 (by omega) q1 q2 q3 q4 q5 m71
  ·
    replace c179 := ti_eqN c179 rfl (show (0 : Int32).toInt = 0 from rfl)
    exact t_readTag_91 (aa := aa)  hself71 (x1 := x1) (x2 := x2) (x3 := x3) (x4 := x4) (x5 := x5) hI hA r_x1 r_x2 r_x3 r_x4 r_x5 (by omega) q1 q2 q3 q4 q5 m71
theorem t_readTag_71 {aa : Int}  : ∀ (n : Nat) (x1 : Int32) (x2 : Int32) (x3 : Int32) (x4 : Int32) (x5 : Int32) (I : Nat → Int32) (A : Nat → Nat → Int32), TJ I → TK A → ((0 : Int) ≤ x1.toInt ∧ x1.toInt ≤ (1 : Int)) → ((0 : Int) ≤ x2.toInt ∧ x2.toInt ≤ (2000 : Int)) → ((0 : Int) ≤ x3.toInt ∧ x3.toInt ≤ (8 : Int)) → ((0 : Int) ≤ x4.toInt ∧ x4.toInt ≤ (1 : Int)) → ((0 : Int) ≤ x5.toInt ∧ x5.toInt ≤ (2100 : Int)) → ((I 37).toInt ≤ (I 1).toInt) → (aa < (I 37).toInt) → ((I 29).toInt ≤ 1999) → (x5.toInt ≤ (I 37).toInt) → (x4.toInt = 0 → x3.toInt ≤ 7) → (cE A (x1).toNatClampNeg x3.toInt) → ((I 1).toInt - (I 37).toInt) < (n : Int) → Ok (f_readTag_71  n x1 x2 x3 x4 x5 I A) (fun o => TJ o.2.1 ∧ TK o.2.2 ∧ ((0 : Int) ≤ o.1.toInt ∧ o.1.toInt ≤ (92100 : Int)) ∧ ((o.2.1 37).toInt ≤ (o.2.1 1).toInt ∧ aa < (o.2.1 37).toInt) ∧ ((o.2.1 29).toInt ≤ 1999)) := by
  intro n
  induction n with
  | zero => intro x1 x2 x3 x4 x5 I A hI hA g0 g1 g2 g3 g4 g5 g6 g7 g8 g9 g10  hm; exfalso; omega
  | succ n ih =>
    intro x1 x2 x3 x4 x5 I A hI hA g0 g1 g2 g3 g4 g5 g6 g7 g8 g9 g10  hm
    exact t_readTag_71s (aa := aa)  (N71 := n)  ih hI hA g0 g1 g2 g3 g4 g5 g6 g7 g8 g9 g10  (by omega)
theorem t_readTag_23 {aa : Int} {I : Nat → Int32} {A : Nat → Nat → Int32} {x1 : Int32} {x2 : Int32} {x3 : Int32} {t0 : Int32} (hI : TJ I) (hA : TK A) (r_x1 : (0 : Int) ≤ x1.toInt ∧ x1.toInt ≤ (1 : Int)) (r_x2 : (0 : Int) ≤ x2.toInt ∧ x2.toInt ≤ (2000 : Int)) (r_x3 : (0 : Int) ≤ x3.toInt ∧ x3.toInt ≤ (8 : Int)) (r_t0 : (0 : Int) ≤ t0.toInt ∧ t0.toInt ≤ (1 : Int)) (q0 : (I 37).toInt < (I 1).toInt) (q1 : aa ≤ (I 37).toInt) (q2 : (I 29).toInt ≤ 1999) (q3 : t0.toInt = 0 → x3.toInt ≤ 7) (q4 : cE A (x1).toNatClampNeg x3.toInt) : Ok (f_readTag_23 x1 x2 x3 t0 I A) (fun o => TJ o.2.1 ∧ TK o.2.2 ∧ ((0 : Int) ≤ o.1.toInt ∧ o.1.toInt ≤ (92100 : Int)) ∧ ((o.2.1 37).toInt ≤ (o.2.1 1).toInt ∧ aa < (o.2.1 37).toInt) ∧ ((o.2.1 29).toInt ≤ 1999)) := by
  unfold f_readTag_23
  have b_I_1 := tI_1 hI
  have b_I_37 := tI_37 hI
  have b_I_29 := tI_29 hI
  refine ok_bnd (fun v1 e185 => ?_)
  have t_v1 : v1.toInt = (I 37).toInt + 1 := ti_add e185 rfl (show (1 : Int32).toInt = 1 from rfl) (by omega) (by omega)
  refine ok_bnd (fun I2 e186 => ?_)
  have hI_I2 : TJ I2 := e186.symm ▸ tj_u hI (k := 37) (show (0 : Int) ≤ v1.toInt from (by omega)) (show v1.toInt ≤ (2100 : Int) from (by omega))
  have : (I2 1).toInt = (I 1).toInt := by rw [e186]; rfl
  have : (I2 37).toInt = v1.toInt := by rw [e186]; exact rfl
  have : (I2 29).toInt = (I 29).toInt := by rw [e186]; rfl
  have b_I2_1 := tI_1 hI_I2
  have b_I2_37 := tI_37 hI_I2
  obtain ⟨⟨r3, Ic3, Ac3⟩, h_r3, hI_Ic3, hA_Ac3, p_r3_0⟩ := t_blanks   hI_I2 hA (show (I2 37).toInt ≤ (I2 37).toInt ∧ (I2 37).toInt ≤ (I2 1).toInt ∧ (I2 1).toInt ≤ (I2 1).toInt from ⟨Int.le_refl _, by omega, Int.le_refl _⟩)
  replace hI_Ic3 : TJ Ic3 := hI_Ic3
  replace hA_Ac3 : TK Ac3 := hA_Ac3
  dsimp only at p_r3_0
  refine ok_clR h_r3 ?_
  have f_r3 := fw_blanks h_r3
  have : (Ic3 1).toInt = (I2 1).toInt := congrArg Int32.toInt (f_r3.1 1 (by decide))
  have : (Ic3 29).toInt = (I2 29).toInt := congrArg Int32.toInt (f_r3.1 29 (by decide))
  have k187 : cE Ac3 (x1).toNatClampNeg x3.toInt := cE_fr (f_r3.2 18 (by decide)) q4
  obtain ⟨r4, h_r4, p_r4⟩ := ro (t_look   hI_Ic3 hA_Ac3 )
  refine ok_clR h_r4 ?_
  dsimp only at p_r4
  obtain ⟨r5, h_r5, p_r5⟩ := ro (t_isLetter (x0 := r4)  hI_Ic3 hA_Ac3 )
  refine ok_clR h_r5 ?_
  dsimp only at p_r5
  refine ok_if (fun c188 => ?_) (fun c188 => ?_)
  ·
    replace c188 := ti_eqP c188 rfl (show (0 : Int32).toInt = 0 from rfl)
    obtain ⟨r6, h_r6, p_r6⟩ := ro (t_look   hI_Ic3 hA_Ac3 )
    refine ok_clR h_r6 ?_
    dsimp only at p_r6
    obtain ⟨r7, h_r7, p_r7⟩ := ro (t_isDigit (x0 := r6)  hI_Ic3 hA_Ac3 )
    refine ok_clR h_r7 ?_
    dsimp only at p_r7
    refine ok_if (fun c189 => ?_) (fun c189 => ?_)
    ·
      replace c189 := ti_eqP c189 rfl (show (0 : Int32).toInt = 0 from rfl)
      have b_Ic3_37 := tI_37 hI_Ic3
      obtain ⟨r8, h_r8, p_r8⟩ := ro (t_fault (x0 := (1 : Int32)) (x1 := (Ic3 37))  hI_Ic3 hA_Ac3 (by decide) (by omega))
      refine ok_clR h_r8 ?_
      dsimp only at p_r8
      exact ok_ret ⟨hI_Ic3, hA_Ac3, (show (0 : Int) ≤ r8.toInt ∧ r8.toInt ≤ (92100 : Int) from (by omega)), (by show (Ic3 37).toInt ≤ (Ic3 1).toInt ∧ aa < (Ic3 37).toInt; omega), (by show (Ic3 29).toInt ≤ 1999; omega)⟩
    ·
      replace c189 := ti_eqN c189 rfl (show (0 : Int32).toInt = 0 from rfl)
      have b_Ic3_1 := tI_1 hI_Ic3
      have b_Ic3_37 := tI_37 hI_Ic3
      have b_Ic3_29 := tI_29 hI_Ic3
      exact t_readTag_71 (aa := aa)    mFuel x1 x2 x3 t0 (0 : Int32) Ic3 Ac3 hI_Ic3 hA_Ac3 r_x1 r_x2 r_x3 r_t0 (by decide) (by have z0 : (0 : Int32).toInt = 0 := rfl; omega) (by have z0 : (0 : Int32).toInt = 0 := rfl; omega) (by have z0 : (0 : Int32).toInt = 0 := rfl; omega) (by have z0 : (0 : Int32).toInt = 0 := rfl; omega) q3 k187 (by show _ < ((200000 : Nat) : Int); have z0 : (0 : Int32).toInt = 0 := rfl; omega)
  ·
    replace c188 := ti_eqN c188 rfl (show (0 : Int32).toInt = 0 from rfl)
    have b_Ic3_1 := tI_1 hI_Ic3
    have b_Ic3_37 := tI_37 hI_Ic3
    have b_Ic3_29 := tI_29 hI_Ic3
    exact t_readTag_71 (aa := aa)    mFuel x1 x2 x3 t0 (0 : Int32) Ic3 Ac3 hI_Ic3 hA_Ac3 r_x1 r_x2 r_x3 r_t0 (by decide) (by have z0 : (0 : Int32).toInt = 0 := rfl; omega) (by have z0 : (0 : Int32).toInt = 0 := rfl; omega) (by have z0 : (0 : Int32).toInt = 0 := rfl; omega) (by have z0 : (0 : Int32).toInt = 0 := rfl; omega) q3 k187 (by show _ < ((200000 : Nat) : Int); have z0 : (0 : Int32).toInt = 0 := rfl; omega)
theorem t_readTag_0 {aa : Int} {I : Nat → Int32} {A : Nat → Nat → Int32} {x1 : Int32} (hI : TJ I) (hA : TK A) (r_x1 : (0 : Int) ≤ x1.toInt ∧ x1.toInt ≤ (1 : Int)) (q0 : (I 37).toInt < (I 1).toInt) (q1 : aa ≤ (I 37).toInt) (q2 : (I 29).toInt ≤ 1999) : Ok (f_readTag_0 x1 I A) (fun o => TJ o.2.1 ∧ TK o.2.2 ∧ ((0 : Int) ≤ o.1.toInt ∧ o.1.toInt ≤ (92100 : Int)) ∧ ((o.2.1 37).toInt ≤ (o.2.1 1).toInt ∧ aa < (o.2.1 37).toInt) ∧ ((o.2.1 29).toInt ≤ 1999)) := by
  unfold f_readTag_0
  have b_I_1 := tI_1 hI
  have b_I_37 := tI_37 hI
  have b_I_29 := tI_29 hI
  refine ok_chk (ti_in (by omega) (by omega)) ?_
  refine ok_bnd (fun v1 e190 => ?_)
  have b_v1 := tA_18 hA ((x1).toNatClampNeg)
  rw [← e190] at b_v1
  refine ok_if (fun c191 => ?_) (fun c191 => ?_)
  ·
    replace c191 := ti_eqP c191 rfl (show (8 : Int32).toInt = 8 from rfl)
    exact t_readTag_23 (aa := aa)   (x1 := x1) (x2 := (I 37)) (x3 := v1) (t0 := (1 : Int32)) hI hA r_x1 (by omega) (by omega) (by decide) q0 q1 q2 (by have z0 : (1 : Int32).toInt = 1 := rfl; omega) (by unfold cE; rw [e190])
  ·
    replace c191 := ti_eqN c191 rfl (show (8 : Int32).toInt = 8 from rfl)
    exact t_readTag_23 (aa := aa)   (x1 := x1) (x2 := (I 37)) (x3 := v1) (t0 := (0 : Int32)) hI hA r_x1 (by omega) (by omega) (by decide) q0 q1 q2 (by have z0 : (0 : Int32).toInt = 0 := rfl; omega) (by unfold cE; rw [e190])
theorem t_readTag {aa : Int} {I : Nat → Int32} {A : Nat → Nat → Int32} {x1 : Int32} (hI : TJ I) (hA : TK A) (r_x1 : (0 : Int) ≤ x1.toInt ∧ x1.toInt ≤ (1 : Int)) (q0 : (I 37).toInt < (I 1).toInt) (q1 : aa ≤ (I 37).toInt) (q2 : (I 29).toInt ≤ 1999) : Ok (f_readTag x1 I A) (fun o => TJ o.2.1 ∧ TK o.2.2 ∧ ((0 : Int) ≤ o.1.toInt ∧ o.1.toInt ≤ (92100 : Int)) ∧ ((o.2.1 37).toInt ≤ (o.2.1 1).toInt ∧ aa < (o.2.1 37).toInt) ∧ ((o.2.1 29).toInt ≤ 1999)) := t_readTag_0 (aa := aa) hI hA r_x1 q0 q1 q2
theorem t_readRemarks_344 {aa : Int} {I : Nat → Int32} {A : Nat → Nat → Int32} {self4 : Int32 → Int32 → (Nat → Int32) → (Nat → Nat → Int32) → Option (Int32 × MS)} {N4 : Nat} (hself4 : ∀ (x1 : Int32) (x2 : Int32) (I : Nat → Int32) (A : Nat → Nat → Int32), TJ I → TK A → ((0 : Int) ≤ x1.toInt ∧ x1.toInt ≤ (1 : Int)) → ((0 : Int) ≤ x2.toInt ∧ x2.toInt ≤ (300 : Int)) → ((I 37).toInt ≤ (I 1).toInt) → (aa ≤ (I 37).toInt) → ((I 1).toInt - (I 37).toInt) < (N4 : Int) → Ok (self4 x1 x2 I A) (fun o => TJ o.2.1 ∧ TK o.2.2 ∧ ((0 : Int) ≤ o.1.toInt ∧ o.1.toInt ≤ (92100 : Int)) ∧ ((o.2.1 37).toInt ≤ (o.2.1 1).toInt ∧ aa ≤ (o.2.1 37).toInt))) {x1 : Int32} {x2 : Int32} {t0 : Int32} (hI : TJ I) (hA : TK A) (r_x1 : (0 : Int) ≤ x1.toInt ∧ x1.toInt ≤ (1 : Int)) (r_x2 : (0 : Int) ≤ x2.toInt ∧ x2.toInt ≤ (300 : Int)) (r_t0 : (0 : Int) ≤ t0.toInt ∧ t0.toInt ≤ (2000 : Int)) (q0 : t0.toInt ≤ (I 1).toInt) (q1 : aa ≤ t0.toInt) (m4 : ((I 1).toInt - t0.toInt + 1) ≤ (N4 : Int)) : Ok (f_readRemarks_344 self4 x1 x2 t0 I A) (fun o => TJ o.2.1 ∧ TK o.2.2 ∧ ((0 : Int) ≤ o.1.toInt ∧ o.1.toInt ≤ (92100 : Int)) ∧ ((o.2.1 37).toInt ≤ (o.2.1 1).toInt ∧ aa ≤ (o.2.1 37).toInt)) := by
  unfold f_readRemarks_344
  have b_I_1 := tI_1 hI
  have b_I_37 := tI_37 hI
  refine ok_bnd (fun I1 e192 => ?_)
  have hI_I1 : TJ I1 := e192.symm ▸ tj_u hI (k := 37) (show (0 : Int) ≤ t0.toInt from (by omega)) (show t0.toInt ≤ (2100 : Int) from (by omega))
  have : (I1 1).toInt = (I 1).toInt := by rw [e192]; rfl
  have : (I1 37).toInt = t0.toInt := by rw [e192]; exact rfl
  have b_I1_1 := tI_1 hI_I1
  have b_I1_37 := tI_37 hI_I1
  obtain ⟨⟨r2, Ic2, Ac2⟩, h_r2, hI_Ic2, hA_Ac2, p_r2_0⟩ := t_blanks   hI_I1 hA (show (I1 37).toInt ≤ (I1 37).toInt ∧ (I1 37).toInt ≤ (I1 1).toInt ∧ (I1 1).toInt ≤ (I1 1).toInt from ⟨Int.le_refl _, by omega, Int.le_refl _⟩)
  replace hI_Ic2 : TJ Ic2 := hI_Ic2
  replace hA_Ac2 : TK Ac2 := hA_Ac2
  dsimp only at p_r2_0
  refine ok_clR h_r2 ?_
  have f_r2 := fw_blanks h_r2
  have : (Ic2 1).toInt = (I1 1).toInt := congrArg Int32.toInt (f_r2.1 1 (by decide))
  have b_Ic2_1 := tI_1 hI_Ic2
  have b_Ic2_37 := tI_37 hI_Ic2
  exact hself4 x1 x2 Ic2 Ac2 hI_Ic2 hA_Ac2 r_x1 r_x2 (by omega) (by omega) (by omega)
theorem t_readRemarks_303 {aa : Int} {I : Nat → Int32} {A : Nat → Nat → Int32} {self4 : Int32 → Int32 → (Nat → Int32) → (Nat → Nat → Int32) → Option (Int32 × MS)} {N4 : Nat} (hself4 : ∀ (x1 : Int32) (x2 : Int32) (I : Nat → Int32) (A : Nat → Nat → Int32), TJ I → TK A → ((0 : Int) ≤ x1.toInt ∧ x1.toInt ≤ (1 : Int)) → ((0 : Int) ≤ x2.toInt ∧ x2.toInt ≤ (300 : Int)) → ((I 37).toInt ≤ (I 1).toInt) → (aa ≤ (I 37).toInt) → ((I 1).toInt - (I 37).toInt) < (N4 : Int) → Ok (self4 x1 x2 I A) (fun o => TJ o.2.1 ∧ TK o.2.2 ∧ ((0 : Int) ≤ o.1.toInt ∧ o.1.toInt ≤ (92100 : Int)) ∧ ((o.2.1 37).toInt ≤ (o.2.1 1).toInt ∧ aa ≤ (o.2.1 37).toInt))) {self247 : Int32 → Int32 → Int32 → Int32 → Int32 → Int32 → Int32 → Int32 → Int32 → (Nat → Int32) → (Nat → Nat → Int32) → Option (Int32 × MS)} {N247 : Nat} (hself247 : ∀ (x1 : Int32) (x2 : Int32) (x4 : Int32) (x5 : Int32) (x6 : Int32) (x7 : Int32) (x8 : Int32) (x9 : Int32) (x10 : Int32) (I : Nat → Int32) (A : Nat → Nat → Int32), TJ I → TK A → ((0 : Int) ≤ x1.toInt ∧ x1.toInt ≤ (1 : Int)) → ((0 : Int) ≤ x2.toInt ∧ x2.toInt ≤ (300 : Int)) → ((0 : Int) ≤ x4.toInt ∧ x4.toInt ≤ (1 : Int)) → ((0 : Int) ≤ x5.toInt ∧ x5.toInt ≤ (2000 : Int)) → ((0 : Int) ≤ x6.toInt ∧ x6.toInt ≤ (2000 : Int)) → ((0 : Int) ≤ x7.toInt ∧ x7.toInt ≤ (601 : Int)) → ((0 : Int) ≤ x8.toInt ∧ x8.toInt ≤ (200 : Int)) → ((0 : Int) ≤ x9.toInt ∧ x9.toInt ≤ (1 : Int)) → ((0 : Int) ≤ x10.toInt ∧ x10.toInt ≤ (2000 : Int)) → ((I 37).toInt ≤ (I 1).toInt) → (aa ≤ (I 37).toInt) → (x8.toInt + x9.toInt + x6.toInt ≤ 200) → (x5.toInt + x6.toInt = (I 37).toInt) → (x4.toInt = 1 → (I 37).toInt < (I 1).toInt) → (((I 1).toInt - (I 37).toInt + 1) ≤ (N4 : Int)) → (2001 - x10.toInt) < (N247 : Int) → Ok (self247 x1 x2 x4 x5 x6 x7 x8 x9 x10 I A) (fun o => TJ o.2.1 ∧ TK o.2.2 ∧ ((0 : Int) ≤ o.1.toInt ∧ o.1.toInt ≤ (92100 : Int)) ∧ ((o.2.1 37).toInt ≤ (o.2.1 1).toInt ∧ aa ≤ (o.2.1 37).toInt))) {x1 : Int32} {x2 : Int32} {x4 : Int32} {x5 : Int32} {x6 : Int32} {x7 : Int32} {x8 : Int32} {x9 : Int32} {x10 : Int32} {t0 : Int32} {t1 : Int32} (hI : TJ I) (hA : TK A) (r_x1 : (0 : Int) ≤ x1.toInt ∧ x1.toInt ≤ (1 : Int)) (r_x2 : (0 : Int) ≤ x2.toInt ∧ x2.toInt ≤ (300 : Int)) (r_x4 : (0 : Int) ≤ x4.toInt ∧ x4.toInt ≤ (1 : Int)) (r_x5 : (0 : Int) ≤ x5.toInt ∧ x5.toInt ≤ (2000 : Int)) (r_x6 : (0 : Int) ≤ x6.toInt ∧ x6.toInt ≤ (2000 : Int)) (r_x7 : (0 : Int) ≤ x7.toInt ∧ x7.toInt ≤ (601 : Int)) (r_x8 : (0 : Int) ≤ x8.toInt ∧ x8.toInt ≤ (200 : Int)) (r_x9 : (0 : Int) ≤ x9.toInt ∧ x9.toInt ≤ (1 : Int)) (r_x10 : (0 : Int) ≤ x10.toInt ∧ x10.toInt ≤ (1999 : Int)) (r_t1 : (0 : Int) ≤ t1.toInt ∧ t1.toInt ≤ (120399 : Int)) (q0 : (I 37).toInt ≤ (I 1).toInt) (q1 : aa ≤ (I 37).toInt) (q2 : x8.toInt + x9.toInt + x6.toInt ≤ 200) (q3 : x5.toInt + x6.toInt = (I 37).toInt) (q4 : x4.toInt = 1 → (I 37).toInt < (I 1).toInt) (m4 : ((I 1).toInt - (I 37).toInt + 1) ≤ (N4 : Int)) (m247 : (2001 - x10.toInt) ≤ (N247 : Int)) : Ok (f_readRemarks_303 self4 self247 x1 x2 x4 x5 x6 x7 x8 x9 x10 t0 t1 I A) (fun o => TJ o.2.1 ∧ TK o.2.2 ∧ ((0 : Int) ≤ o.1.toInt ∧ o.1.toInt ≤ (92100 : Int)) ∧ ((o.2.1 37).toInt ≤ (o.2.1 1).toInt ∧ aa ≤ (o.2.1 37).toInt)) := by
  unfold f_readRemarks_303
  have b_I_1 := tI_1 hI
  have b_I_37 := tI_37 hI
  refine ok_chk (ti_in (by omega) (by omega)) ?_
  refine ok_bnd (fun A1 e193 => ?_)
  have hA_A1 : TK A1 := e193.symm ▸ tk_n hA rfl
  refine ok_bnd (fun v2 e194 => ?_)
  have t_v2 : v2.toInt = x10.toInt + 1 := ti_add e194 rfl (show (1 : Int32).toInt = 1 from rfl) (by omega) (by omega)
  exact hself247 x1 x2 x4 x5 x6 x7 x8 x9 v2 I A1 hI hA_A1 r_x1 r_x2 r_x4 r_x5 r_x6 r_x7 r_x8 r_x9 (by omega) q0 q1 q2 q3 q4 m4 (by omega)
theorem t_readRemarks_247s {aa : Int} {I : Nat → Int32} {A : Nat → Nat → Int32} {self4 : Int32 → Int32 → (Nat → Int32) → (Nat → Nat → Int32) → Option (Int32 × MS)} {N4 : Nat} (hself4 : ∀ (x1 : Int32) (x2 : Int32) (I : Nat → Int32) (A : Nat → Nat → Int32), TJ I → TK A → ((0 : Int) ≤ x1.toInt ∧ x1.toInt ≤ (1 : Int)) → ((0 : Int) ≤ x2.toInt ∧ x2.toInt ≤ (300 : Int)) → ((I 37).toInt ≤ (I 1).toInt) → (aa ≤ (I 37).toInt) → ((I 1).toInt - (I 37).toInt) < (N4 : Int) → Ok (self4 x1 x2 I A) (fun o => TJ o.2.1 ∧ TK o.2.2 ∧ ((0 : Int) ≤ o.1.toInt ∧ o.1.toInt ≤ (92100 : Int)) ∧ ((o.2.1 37).toInt ≤ (o.2.1 1).toInt ∧ aa ≤ (o.2.1 37).toInt))) {self247 : Int32 → Int32 → Int32 → Int32 → Int32 → Int32 → Int32 → Int32 → Int32 → (Nat → Int32) → (Nat → Nat → Int32) → Option (Int32 × MS)} {N247 : Nat} (hself247 : ∀ (x1 : Int32) (x2 : Int32) (x4 : Int32) (x5 : Int32) (x6 : Int32) (x7 : Int32) (x8 : Int32) (x9 : Int32) (x10 : Int32) (I : Nat → Int32) (A : Nat → Nat → Int32), TJ I → TK A → ((0 : Int) ≤ x1.toInt ∧ x1.toInt ≤ (1 : Int)) → ((0 : Int) ≤ x2.toInt ∧ x2.toInt ≤ (300 : Int)) → ((0 : Int) ≤ x4.toInt ∧ x4.toInt ≤ (1 : Int)) → ((0 : Int) ≤ x5.toInt ∧ x5.toInt ≤ (2000 : Int)) → ((0 : Int) ≤ x6.toInt ∧ x6.toInt ≤ (2000 : Int)) → ((0 : Int) ≤ x7.toInt ∧ x7.toInt ≤ (601 : Int)) → ((0 : Int) ≤ x8.toInt ∧ x8.toInt ≤ (200 : Int)) → ((0 : Int) ≤ x9.toInt ∧ x9.toInt ≤ (1 : Int)) → ((0 : Int) ≤ x10.toInt ∧ x10.toInt ≤ (2000 : Int)) → ((I 37).toInt ≤ (I 1).toInt) → (aa ≤ (I 37).toInt) → (x8.toInt + x9.toInt + x6.toInt ≤ 200) → (x5.toInt + x6.toInt = (I 37).toInt) → (x4.toInt = 1 → (I 37).toInt < (I 1).toInt) → (((I 1).toInt - (I 37).toInt + 1) ≤ (N4 : Int)) → (2001 - x10.toInt) < (N247 : Int) → Ok (self247 x1 x2 x4 x5 x6 x7 x8 x9 x10 I A) (fun o => TJ o.2.1 ∧ TK o.2.2 ∧ ((0 : Int) ≤ o.1.toInt ∧ o.1.toInt ≤ (92100 : Int)) ∧ ((o.2.1 37).toInt ≤ (o.2.1 1).toInt ∧ aa ≤ (o.2.1 37).toInt))) {x1 : Int32} {x2 : Int32} {x4 : Int32} {x5 : Int32} {x6 : Int32} {x7 : Int32} {x8 : Int32} {x9 : Int32} {x10 : Int32} (hI : TJ I) (hA : TK A) (r_x1 : (0 : Int) ≤ x1.toInt ∧ x1.toInt ≤ (1 : Int)) (r_x2 : (0 : Int) ≤ x2.toInt ∧ x2.toInt ≤ (300 : Int)) (r_x4 : (0 : Int) ≤ x4.toInt ∧ x4.toInt ≤ (1 : Int)) (r_x5 : (0 : Int) ≤ x5.toInt ∧ x5.toInt ≤ (2000 : Int)) (r_x6 : (0 : Int) ≤ x6.toInt ∧ x6.toInt ≤ (2000 : Int)) (r_x7 : (0 : Int) ≤ x7.toInt ∧ x7.toInt ≤ (601 : Int)) (r_x8 : (0 : Int) ≤ x8.toInt ∧ x8.toInt ≤ (200 : Int)) (r_x9 : (0 : Int) ≤ x9.toInt ∧ x9.toInt ≤ (1 : Int)) (r_x10 : (0 : Int) ≤ x10.toInt ∧ x10.toInt ≤ (2000 : Int)) (q0 : (I 37).toInt ≤ (I 1).toInt) (q1 : aa ≤ (I 37).toInt) (q2 : x8.toInt + x9.toInt + x6.toInt ≤ 200) (q3 : x5.toInt + x6.toInt = (I 37).toInt) (q4 : x4.toInt = 1 → (I 37).toInt < (I 1).toInt) (m4 : ((I 1).toInt - (I 37).toInt + 1) ≤ (N4 : Int)) (m247 : (2001 - x10.toInt) ≤ (N247 : Int)) : Ok (f_readRemarks_247s self4 self247 x1 x2 x4 x5 x6 x7 x8 x9 x10 I A) (fun o => TJ o.2.1 ∧ TK o.2.2 ∧ ((0 : Int) ≤ o.1.toInt ∧ o.1.toInt ≤ (92100 : Int)) ∧ ((o.2.1 37).toInt ≤ (o.2.1 1).toInt ∧ aa ≤ (o.2.1 37).toInt)) := by
  unfold f_readRemarks_247s
  have b_I_1 := tI_1 hI
  have b_I_37 := tI_37 hI
  refine ok_if (fun c195 => ?_) (fun c195 => ?_)
  ·
    replace c195 := ti_leP c195 rfl rfl
    refine ok_bnd (fun v1 e196 => ?_)
    have t_v1 : v1.toInt = x8.toInt + x9.toInt := ti_add e196 rfl rfl (by omega) (by omega)
    refine ok_bnd (fun v2 e197 => ?_)
    have t_v2 : v2.toInt = v1.toInt + x6.toInt := ti_add e197 rfl rfl (by omega) (by omega)
    refine ok_chk (ti_in (by omega) (by omega)) ?_
    refine ok_bnd (fun A3 e198 => ?_)
    have hA_A3 : TK A3 := e198.symm ▸ tk_u hA (j := 14) (show (0 : Int) ≤ v2.toInt from (by omega)) (show v2.toInt ≤ (200 : Int) from (by omega))
    refine ok_if (fun c199 => ?_) (fun c199 => ?_)
    ·
      replace c199 := ti_eqP c199 rfl (show (0 : Int32).toInt = 0 from rfl)
      exact t_readRemarks_344 (aa := aa)  hself4 (x1 := x1) (x2 := x2) (t0 := (I 37)) hI hA_A3 r_x1 r_x2 (by omega) q0 q1 m4
    ·
      replace c199 := ti_eqN c199 rfl (show (0 : Int32).toInt = 0 from rfl)
      refine ok_bnd (fun v4 e200 => ?_)
      have t_v4 : v4.toInt = (I 37).toInt + 1 := ti_add e200 rfl (show (1 : Int32).toInt = 1 from rfl) (by omega) (by omega)
      exact t_readRemarks_344 (aa := aa)  hself4 (x1 := x1) (x2 := x2) (t0 := v4) hI hA_A3 r_x1 r_x2 (by omega) (by omega) (by omega) (by omega)
  ·
    replace c195 := ti_leN c195 rfl rfl
    refine ok_bnd (fun v5 e201 => ?_)
    have t_v5 : v5.toInt = 200 * x7.toInt := ti_mul e201 (show (200 : Int32).toInt = 200 from rfl) rfl (by omega) (by omega)
    refine ok_bnd (fun v6 e202 => ?_)
    have t_v6 : v6.toInt = v5.toInt + x8.toInt := ti_add e202 rfl rfl (by omega) (by omega)
    refine ok_bnd (fun v7 e203 => ?_)
    have t_v7 : v7.toInt = v6.toInt + x9.toInt := ti_add e203 rfl rfl (by omega) (by omega)
    refine ok_bnd (fun v8 e204 => ?_)
    have t_v8 : v8.toInt = v7.toInt + x10.toInt := ti_add e204 rfl rfl (by omega) (by omega)
    refine ok_bnd (fun v9 e205 => ?_)
    have t_v9 : v9.toInt = x5.toInt + x10.toInt := ti_add e205 rfl rfl (by omega) (by omega)
    refine ok_chk (ti_in (by omega) (by omega)) ?_
    refine ok_bnd (fun v10 e206 => ?_)
    have b_v10 := tA_2 hA ((v9).toNatClampNeg)
    rw [← e206] at b_v10
    refine ok_if (fun c207 => ?_) (fun c207 => ?_)
    ·
      replace c207 := ti_eqP c207 rfl (show (10 : Int32).toInt = 10 from rfl)
      exact t_readRemarks_303 (aa := aa)  hself4 hself247 (x1 := x1) (x2 := x2) (x4 := x4) (x5 := x5) (x6 := x6) (x7 := x7) (x8 := x8) (x9 := x9) (x10 := x10) (t0 := (32 : Int32)) (t1 := v8) hI hA r_x1 r_x2 r_x4 r_x5 r_x6 r_x7 r_x8 r_x9 (by omega) (by omega) q0 q1 q2 q3 q4 m4 m247
    ·
      replace c207 := ti_eqN c207 rfl (show (10 : Int32).toInt = 10 from rfl)
      refine ok_bnd (fun v11 e208 => ?_)
      have t_v11 : v11.toInt = x5.toInt + x10.toInt := ti_add e208 rfl rfl (by omega) (by omega)
      refine ok_chk (ti_in (by omega) (by omega)) ?_
      refine ok_bnd (fun v12 e209 => ?_)
      have b_v12 := tA_2 hA ((v11).toNatClampNeg)
      rw [← e209] at b_v12
      exact t_readRemarks_303 (aa := aa)  hself4 hself247 (x1 := x1) (x2 := x2) (x4 := x4) (x5 := x5) (x6 := x6) (x7 := x7) (x8 := x8) (x9 := x9) (x10 := x10) (t0 := v12) (t1 := v8) hI hA r_x1 r_x2 r_x4 r_x5 r_x6 r_x7 r_x8 r_x9 (by omega) (by omega) q0 q1 q2 q3 q4 m4 m247
theorem t_readRemarks_247 {aa : Int} {self4 : Int32 → Int32 → (Nat → Int32) → (Nat → Nat → Int32) → Option (Int32 × MS)} {N4 : Nat} (hself4 : ∀ (x1 : Int32) (x2 : Int32) (I : Nat → Int32) (A : Nat → Nat → Int32), TJ I → TK A → ((0 : Int) ≤ x1.toInt ∧ x1.toInt ≤ (1 : Int)) → ((0 : Int) ≤ x2.toInt ∧ x2.toInt ≤ (300 : Int)) → ((I 37).toInt ≤ (I 1).toInt) → (aa ≤ (I 37).toInt) → ((I 1).toInt - (I 37).toInt) < (N4 : Int) → Ok (self4 x1 x2 I A) (fun o => TJ o.2.1 ∧ TK o.2.2 ∧ ((0 : Int) ≤ o.1.toInt ∧ o.1.toInt ≤ (92100 : Int)) ∧ ((o.2.1 37).toInt ≤ (o.2.1 1).toInt ∧ aa ≤ (o.2.1 37).toInt))) : ∀ (n : Nat) (x1 : Int32) (x2 : Int32) (x4 : Int32) (x5 : Int32) (x6 : Int32) (x7 : Int32) (x8 : Int32) (x9 : Int32) (x10 : Int32) (I : Nat → Int32) (A : Nat → Nat → Int32), TJ I → TK A → ((0 : Int) ≤ x1.toInt ∧ x1.toInt ≤ (1 : Int)) → ((0 : Int) ≤ x2.toInt ∧ x2.toInt ≤ (300 : Int)) → ((0 : Int) ≤ x4.toInt ∧ x4.toInt ≤ (1 : Int)) → ((0 : Int) ≤ x5.toInt ∧ x5.toInt ≤ (2000 : Int)) → ((0 : Int) ≤ x6.toInt ∧ x6.toInt ≤ (2000 : Int)) → ((0 : Int) ≤ x7.toInt ∧ x7.toInt ≤ (601 : Int)) → ((0 : Int) ≤ x8.toInt ∧ x8.toInt ≤ (200 : Int)) → ((0 : Int) ≤ x9.toInt ∧ x9.toInt ≤ (1 : Int)) → ((0 : Int) ≤ x10.toInt ∧ x10.toInt ≤ (2000 : Int)) → ((I 37).toInt ≤ (I 1).toInt) → (aa ≤ (I 37).toInt) → (x8.toInt + x9.toInt + x6.toInt ≤ 200) → (x5.toInt + x6.toInt = (I 37).toInt) → (x4.toInt = 1 → (I 37).toInt < (I 1).toInt) → (((I 1).toInt - (I 37).toInt + 1) ≤ (N4 : Int)) → (2001 - x10.toInt) < (n : Int) → Ok (f_readRemarks_247 self4 n x1 x2 x4 x5 x6 x7 x8 x9 x10 I A) (fun o => TJ o.2.1 ∧ TK o.2.2 ∧ ((0 : Int) ≤ o.1.toInt ∧ o.1.toInt ≤ (92100 : Int)) ∧ ((o.2.1 37).toInt ≤ (o.2.1 1).toInt ∧ aa ≤ (o.2.1 37).toInt)) := by
  intro n
  induction n with
  | zero => intro x1 x2 x4 x5 x6 x7 x8 x9 x10 I A hI hA g0 g1 g2 g3 g4 g5 g6 g7 g8 g9 g10 g11 g12 g13 w0 hm; exfalso; omega
  | succ n ih =>
    intro x1 x2 x4 x5 x6 x7 x8 x9 x10 I A hI hA g0 g1 g2 g3 g4 g5 g6 g7 g8 g9 g10 g11 g12 g13 w0 hm
    exact t_readRemarks_247s (aa := aa)  (N247 := n) hself4 ih hI hA g0 g1 g2 g3 g4 g5 g6 g7 g8 g9 g10 g11 g12 g13 w0 (by omega)
theorem t_readRemarks_244 {aa : Int} {I : Nat → Int32} {A : Nat → Nat → Int32} {self4 : Int32 → Int32 → (Nat → Int32) → (Nat → Nat → Int32) → Option (Int32 × MS)} {N4 : Nat} (hself4 : ∀ (x1 : Int32) (x2 : Int32) (I : Nat → Int32) (A : Nat → Nat → Int32), TJ I → TK A → ((0 : Int) ≤ x1.toInt ∧ x1.toInt ≤ (1 : Int)) → ((0 : Int) ≤ x2.toInt ∧ x2.toInt ≤ (300 : Int)) → ((I 37).toInt ≤ (I 1).toInt) → (aa ≤ (I 37).toInt) → ((I 1).toInt - (I 37).toInt) < (N4 : Int) → Ok (self4 x1 x2 I A) (fun o => TJ o.2.1 ∧ TK o.2.2 ∧ ((0 : Int) ≤ o.1.toInt ∧ o.1.toInt ≤ (92100 : Int)) ∧ ((o.2.1 37).toInt ≤ (o.2.1 1).toInt ∧ aa ≤ (o.2.1 37).toInt))) {x1 : Int32} {x2 : Int32} {x4 : Int32} {x5 : Int32} {x6 : Int32} {x7 : Int32} {x8 : Int32} {x9 : Int32} (hI : TJ I) (hA : TK A) (r_x1 : (0 : Int) ≤ x1.toInt ∧ x1.toInt ≤ (1 : Int)) (r_x2 : (0 : Int) ≤ x2.toInt ∧ x2.toInt ≤ (300 : Int)) (r_x4 : (0 : Int) ≤ x4.toInt ∧ x4.toInt ≤ (1 : Int)) (r_x5 : (0 : Int) ≤ x5.toInt ∧ x5.toInt ≤ (2000 : Int)) (r_x6 : (0 : Int) ≤ x6.toInt ∧ x6.toInt ≤ (2000 : Int)) (r_x7 : (0 : Int) ≤ x7.toInt ∧ x7.toInt ≤ (601 : Int)) (r_x8 : (0 : Int) ≤ x8.toInt ∧ x8.toInt ≤ (200 : Int)) (r_x9 : (0 : Int) ≤ x9.toInt ∧ x9.toInt ≤ (1 : Int)) (q0 : (I 37).toInt ≤ (I 1).toInt) (q1 : aa ≤ (I 37).toInt) (q2 : x8.toInt + x9.toInt + x6.toInt ≤ 200) (q3 : x5.toInt + x6.toInt = (I 37).toInt) (q4 : x4.toInt = 1 → (I 37).toInt < (I 1).toInt) (m4 : ((I 1).toInt - (I 37).toInt + 1) ≤ (N4 : Int)) : Ok (f_readRemarks_244 self4 x1 x2 x4 x5 x6 x7 x8 x9 I A) (fun o => TJ o.2.1 ∧ TK o.2.2 ∧ ((0 : Int) ≤ o.1.toInt ∧ o.1.toInt ≤ (92100 : Int)) ∧ ((o.2.1 37).toInt ≤ (o.2.1 1).toInt ∧ aa ≤ (o.2.1 37).toInt)) := by
  unfold f_readRemarks_244
  have b_I_1 := tI_1 hI
  have b_I_37 := tI_37 hI
  exact t_readRemarks_247 (aa := aa)  hself4  mFuel x1 x2 x4 x5 x6 x7 x8 x9 (0 : Int32) I A hI hA r_x1 r_x2 r_x4 r_x5 r_x6 r_x7 r_x8 r_x9 (by decide) q0 q1 q2 q3 q4 m4 (by show _ < ((200000 : Nat) : Int); have z0 : (0 : Int32).toInt = 0 := rfl; omega)
theorem t_readRemarks_199 {aa : Int} {I : Nat → Int32} {A : Nat → Nat → Int32} {self4 : Int32 → Int32 → (Nat → Int32) → (Nat → Nat → Int32) → Option (Int32 × MS)} {N4 : Nat} (hself4 : ∀ (x1 : Int32) (x2 : Int32) (I : Nat → Int32) (A : Nat → Nat → Int32), TJ I → TK A → ((0 : Int) ≤ x1.toInt ∧ x1.toInt ≤ (1 : Int)) → ((0 : Int) ≤ x2.toInt ∧ x2.toInt ≤ (300 : Int)) → ((I 37).toInt ≤ (I 1).toInt) → (aa ≤ (I 37).toInt) → ((I 1).toInt - (I 37).toInt) < (N4 : Int) → Ok (self4 x1 x2 I A) (fun o => TJ o.2.1 ∧ TK o.2.2 ∧ ((0 : Int) ≤ o.1.toInt ∧ o.1.toInt ≤ (92100 : Int)) ∧ ((o.2.1 37).toInt ≤ (o.2.1 1).toInt ∧ aa ≤ (o.2.1 37).toInt))) {x1 : Int32} {x2 : Int32} {x3 : Int32} {x4 : Int32} {x5 : Int32} {x6 : Int32} {x7 : Int32} {x8 : Int32} {t0 : Int32} (hI : TJ I) (hA : TK A) (r_x1 : (0 : Int) ≤ x1.toInt ∧ x1.toInt ≤ (1 : Int)) (r_x2 : (0 : Int) ≤ x2.toInt ∧ x2.toInt ≤ (300 : Int)) (r_x3 : (0 : Int) ≤ x3.toInt ∧ x3.toInt ≤ (2000 : Int)) (r_x4 : (0 : Int) ≤ x4.toInt ∧ x4.toInt ≤ (1 : Int)) (r_x5 : (0 : Int) ≤ x5.toInt ∧ x5.toInt ≤ (2000 : Int)) (r_x6 : (0 : Int) ≤ x6.toInt ∧ x6.toInt ≤ (2000 : Int)) (r_x7 : (0 : Int) ≤ x7.toInt ∧ x7.toInt ≤ (601 : Int)) (r_x8 : (0 : Int) ≤ x8.toInt ∧ x8.toInt ≤ (200 : Int)) (r_t0 : (0 : Int) ≤ t0.toInt ∧ t0.toInt ≤ (1 : Int)) (q0 : (I 37).toInt ≤ (I 1).toInt) (q1 : aa ≤ (I 37).toInt) (q2 : x5.toInt + x6.toInt = (I 37).toInt) (q3 : x4.toInt = 1 → (I 37).toInt < (I 1).toInt) (m4 : ((I 1).toInt - (I 37).toInt + 1) ≤ (N4 : Int)) : Ok (f_readRemarks_199 self4 x1 x2 x3 x4 x5 x6 x7 x8 t0 I A) (fun o => TJ o.2.1 ∧ TK o.2.2 ∧ ((0 : Int) ≤ o.1.toInt ∧ o.1.toInt ≤ (92100 : Int)) ∧ ((o.2.1 37).toInt ≤ (o.2.1 1).toInt ∧ aa ≤ (o.2.1 37).toInt)) := by
  unfold f_readRemarks_199
  have b_I_1 := tI_1 hI
  have b_I_37 := tI_37 hI
  refine ok_bnd (fun v1 e210 => ?_)
  have t_v1 : v1.toInt = x8.toInt + t0.toInt := ti_add e210 rfl rfl (by omega) (by omega)
  refine ok_bnd (fun v2 e211 => ?_)
  have t_v2 : v2.toInt = v1.toInt + x6.toInt := ti_add e211 rfl rfl (by omega) (by omega)
  refine ok_if (fun c212 => ?_) (fun c212 => ?_)
  ·
    replace c212 := ti_leP c212 rfl (show (200 : Int32).toInt = 200 from rfl)
    refine ok_if (fun c213 => ?_) (fun c213 => ?_)
    ·
      replace c213 := ti_eqP c213 rfl (show (1 : Int32).toInt = 1 from rfl)
      refine ok_bnd (fun v3 e214 => ?_)
      have t_v3 : v3.toInt = 200 * x7.toInt := ti_mul e214 (show (200 : Int32).toInt = 200 from rfl) rfl (by omega) (by omega)
      refine ok_bnd (fun v4 e215 => ?_)
      have t_v4 : v4.toInt = v3.toInt + x8.toInt := ti_add e215 rfl rfl (by omega) (by omega)
      refine ok_chk (ti_in (by omega) (by omega)) ?_
      refine ok_bnd (fun A5 e216 => ?_)
      have hA_A5 : TK A5 := e216.symm ▸ tk_n hA rfl
      exact t_readRemarks_244 (aa := aa)  hself4 (x1 := x1) (x2 := x2) (x4 := x4) (x5 := x5) (x6 := x6) (x7 := x7) (x8 := x8) (x9 := t0) hI hA_A5 r_x1 r_x2 r_x4 r_x5 r_x6 r_x7 r_x8 r_t0 q0 q1 (by omega) q2 q3 m4
    ·
      replace c213 := ti_eqN c213 rfl (show (1 : Int32).toInt = 1 from rfl)
      exact t_readRemarks_244 (aa := aa)  hself4 (x1 := x1) (x2 := x2) (x4 := x4) (x5 := x5) (x6 := x6) (x7 := x7) (x8 := x8) (x9 := t0) hI hA r_x1 r_x2 r_x4 r_x5 r_x6 r_x7 r_x8 r_t0 q0 q1 (by omega) q2 q3 m4
  ·
    replace c212 := ti_leN c212 rfl (show (200 : Int32).toInt = 200 from rfl)
    obtain ⟨r6, h_r6, p_r6⟩ := ro (t_fault (x0 := (8 : Int32)) (x1 := x3)  hI hA (by decide) (by omega))
    refine ok_clR h_r6 ?_
    dsimp only at p_r6
    exact ok_ret ⟨hI, hA, (show (0 : Int) ≤ r6.toInt ∧ r6.toInt ≤ (92100 : Int) from (by omega)), (by show (I 37).toInt ≤ (I 1).toInt ∧ aa ≤ (I 37).toInt; omega)⟩
theorem t_readRemarks_157 {aa : Int} {I : Nat → Int32} {A : Nat → Nat → Int32} {self4 : Int32 → Int32 → (Nat → Int32) → (Nat → Nat → Int32) → Option (Int32 × MS)} {N4 : Nat} (hself4 : ∀ (x1 : Int32) (x2 : Int32) (I : Nat → Int32) (A : Nat → Nat → Int32), TJ I → TK A → ((0 : Int) ≤ x1.toInt ∧ x1.toInt ≤ (1 : Int)) → ((0 : Int) ≤ x2.toInt ∧ x2.toInt ≤ (300 : Int)) → ((I 37).toInt ≤ (I 1).toInt) → (aa ≤ (I 37).toInt) → ((I 1).toInt - (I 37).toInt) < (N4 : Int) → Ok (self4 x1 x2 I A) (fun o => TJ o.2.1 ∧ TK o.2.2 ∧ ((0 : Int) ≤ o.1.toInt ∧ o.1.toInt ≤ (92100 : Int)) ∧ ((o.2.1 37).toInt ≤ (o.2.1 1).toInt ∧ aa ≤ (o.2.1 37).toInt))) {x1 : Int32} {x2 : Int32} {x3 : Int32} {x4 : Int32} {x5 : Int32} (hI : TJ I) (hA : TK A) (r_x1 : (0 : Int) ≤ x1.toInt ∧ x1.toInt ≤ (1 : Int)) (r_x2 : (0 : Int) ≤ x2.toInt ∧ x2.toInt ≤ (300 : Int)) (r_x3 : (0 : Int) ≤ x3.toInt ∧ x3.toInt ≤ (2000 : Int)) (r_x4 : (0 : Int) ≤ x4.toInt ∧ x4.toInt ≤ (1 : Int)) (r_x5 : (0 : Int) ≤ x5.toInt ∧ x5.toInt ≤ (2000 : Int)) (q0 : (I 37).toInt ≤ (I 1).toInt) (q1 : aa ≤ (I 37).toInt) (q2 : x5.toInt ≤ (I 37).toInt) (q3 : x4.toInt = 1 → (I 37).toInt < (I 1).toInt) (m4 : ((I 1).toInt - (I 37).toInt + 1) ≤ (N4 : Int)) : Ok (f_readRemarks_157 self4 x1 x2 x3 x4 x5 I A) (fun o => TJ o.2.1 ∧ TK o.2.2 ∧ ((0 : Int) ≤ o.1.toInt ∧ o.1.toInt ≤ (92100 : Int)) ∧ ((o.2.1 37).toInt ≤ (o.2.1 1).toInt ∧ aa ≤ (o.2.1 37).toInt)) := by
  unfold f_readRemarks_157
  have b_I_1 := tI_1 hI
  have b_I_37 := tI_37 hI
  refine ok_bnd (fun v1 e217 => ?_)
  have t_v1 : v1.toInt = (I 37).toInt - x5.toInt := ti_sub e217 rfl rfl (by omega) (by omega)
  refine ok_bnd (fun v2 e218 => ?_)
  have t_v2 : v2.toInt = 301 * x1.toInt := ti_mul e218 (show (301 : Int32).toInt = 301 from rfl) rfl (by omega) (by omega)
  refine ok_bnd (fun v3 e219 => ?_)
  have t_v3 : v3.toInt = v2.toInt + x2.toInt := ti_add e219 rfl rfl (by omega) (by omega)
  refine ok_chk (ti_in (by omega) (by omega)) ?_
  refine ok_bnd (fun v4 e220 => ?_)
  have b_v4 := tA_14 hA ((v3).toNatClampNeg)
  rw [← e220] at b_v4
  refine ok_if (fun c221 => ?_) (fun c221 => ?_)
  ·
    replace c221 := ti_leP c221 rfl (show (0 : Int32).toInt = 0 from rfl)
    unfold f_readRemarks_198
    exact t_readRemarks_199 (aa := aa)  hself4 (x1 := x1) (x2 := x2) (x3 := x3) (x4 := x4) (x5 := x5) (x6 := v1) (x7 := v3) (x8 := v4) (t0 := (0 : Int32)) hI hA r_x1 r_x2 r_x3 r_x4 r_x5 (by omega) (by omega) (by omega) (by decide) q0 q1 (by have z0 : (0 : Int32).toInt = 0 := rfl; omega) q3 m4
  ·
    replace c221 := ti_leN c221 rfl (show (0 : Int32).toInt = 0 from rfl)
    refine ok_if (fun c222 => ?_) (fun c222 => ?_)
    ·
      replace c222 := ti_leP c222 rfl (show (0 : Int32).toInt = 0 from rfl)
      unfold f_readRemarks_198
      exact t_readRemarks_199 (aa := aa)  hself4 (x1 := x1) (x2 := x2) (x3 := x3) (x4 := x4) (x5 := x5) (x6 := v1) (x7 := v3) (x8 := v4) (t0 := (0 : Int32)) hI hA r_x1 r_x2 r_x3 r_x4 r_x5 (by omega) (by omega) (by omega) (by decide) q0 q1 (by have z0 : (0 : Int32).toInt = 0 := rfl; omega) q3 m4
    ·
      replace c222 := ti_leN c222 rfl (show (0 : Int32).toInt = 0 from rfl)
      exact t_readRemarks_199 (aa := aa)  hself4 (x1 := x1) (x2 := x2) (x3 := x3) (x4 := x4) (x5 := x5) (x6 := v1) (x7 := v3) (x8 := v4) (t0 := (1 : Int32)) hI hA r_x1 r_x2 r_x3 r_x4 r_x5 (by omega) (by omega) (by omega) (by decide) q0 q1 (by have z0 : (1 : Int32).toInt = 1 := rfl; omega) q3 m4
theorem t_readRemarks_132 {aa : Int} {I : Nat → Int32} {A : Nat → Nat → Int32} {self4 : Int32 → Int32 → (Nat → Int32) → (Nat → Nat → Int32) → Option (Int32 × MS)} {N4 : Nat} (hself4 : ∀ (x1 : Int32) (x2 : Int32) (I : Nat → Int32) (A : Nat → Nat → Int32), TJ I → TK A → ((0 : Int) ≤ x1.toInt ∧ x1.toInt ≤ (1 : Int)) → ((0 : Int) ≤ x2.toInt ∧ x2.toInt ≤ (300 : Int)) → ((I 37).toInt ≤ (I 1).toInt) → (aa ≤ (I 37).toInt) → ((I 1).toInt - (I 37).toInt) < (N4 : Int) → Ok (self4 x1 x2 I A) (fun o => TJ o.2.1 ∧ TK o.2.2 ∧ ((0 : Int) ≤ o.1.toInt ∧ o.1.toInt ≤ (92100 : Int)) ∧ ((o.2.1 37).toInt ≤ (o.2.1 1).toInt ∧ aa ≤ (o.2.1 37).toInt))) {x1 : Int32} {x2 : Int32} {x3 : Int32} {x4 : Int32} {x5 : Int32} (hI : TJ I) (hA : TK A) (r_x1 : (0 : Int) ≤ x1.toInt ∧ x1.toInt ≤ (1 : Int)) (r_x2 : (0 : Int) ≤ x2.toInt ∧ x2.toInt ≤ (300 : Int)) (r_x3 : (0 : Int) ≤ x3.toInt ∧ x3.toInt ≤ (2000 : Int)) (r_x4 : (0 : Int) ≤ x4.toInt ∧ x4.toInt ≤ (1 : Int)) (r_x5 : (0 : Int) ≤ x5.toInt ∧ x5.toInt ≤ (2000 : Int)) (q0 : (I 37).toInt ≤ (I 1).toInt) (q1 : aa ≤ (I 37).toInt) (q2 : x5.toInt ≤ (I 37).toInt) (m4 : ((I 1).toInt - (I 37).toInt + 1) ≤ (N4 : Int)) : Ok (f_readRemarks_132 self4 x1 x2 x3 x4 x5 I A) (fun o => TJ o.2.1 ∧ TK o.2.2 ∧ ((0 : Int) ≤ o.1.toInt ∧ o.1.toInt ≤ (92100 : Int)) ∧ ((o.2.1 37).toInt ≤ (o.2.1 1).toInt ∧ aa ≤ (o.2.1 37).toInt)) := by
  unfold f_readRemarks_132
  have b_I_1 := tI_1 hI
  have b_I_37 := tI_37 hI
  refine ok_if (fun c223 => ?_) (fun c223 => ?_)
  ·
    replace c223 := ti_eqP c223 rfl (show (0 : Int32).toInt = 0 from rfl)
    exact t_readRemarks_157 (aa := aa)  hself4 (x1 := x1) (x2 := x2) (x3 := x3) (x4 := x4) (x5 := x5) hI hA r_x1 r_x2 r_x3 r_x4 r_x5 q0 q1 q2 (by omega) m4
  ·
    replace c223 := ti_eqN c223 rfl (show (0 : Int32).toInt = 0 from rfl)
    refine ok_if (fun c224 => ?_) (fun c224 => ?_)
    ·
      replace c224 := ti_eqP c224 rfl rfl
      obtain ⟨r1, h_r1, p_r1⟩ := ro (t_fault (x0 := (1 : Int32)) (x1 := (I 37))  hI hA (by decide) (by omega))
      refine ok_clR h_r1 ?_
      dsimp only at p_r1
      exact ok_ret ⟨hI, hA, (show (0 : Int) ≤ r1.toInt ∧ r1.toInt ≤ (92100 : Int) from (by omega)), (by show (I 37).toInt ≤ (I 1).toInt ∧ aa ≤ (I 37).toInt; omega)⟩
    ·
      replace c224 := ti_eqN c224 rfl rfl
      exact t_readRemarks_157 (aa := aa)  hself4 (x1 := x1) (x2 := x2) (x3 := x3) (x4 := x4) (x5 := x5) hI hA r_x1 r_x2 r_x3 r_x4 r_x5 q0 q1 q2 (by omega) m4
theorem t_readRemarks_119 {aa : Int} {I : Nat → Int32} {A : Nat → Nat → Int32} {self4 : Int32 → Int32 → (Nat → Int32) → (Nat → Nat → Int32) → Option (Int32 × MS)} {N4 : Nat} (hself4 : ∀ (x1 : Int32) (x2 : Int32) (I : Nat → Int32) (A : Nat → Nat → Int32), TJ I → TK A → ((0 : Int) ≤ x1.toInt ∧ x1.toInt ≤ (1 : Int)) → ((0 : Int) ≤ x2.toInt ∧ x2.toInt ≤ (300 : Int)) → ((I 37).toInt ≤ (I 1).toInt) → (aa ≤ (I 37).toInt) → ((I 1).toInt - (I 37).toInt) < (N4 : Int) → Ok (self4 x1 x2 I A) (fun o => TJ o.2.1 ∧ TK o.2.2 ∧ ((0 : Int) ≤ o.1.toInt ∧ o.1.toInt ≤ (92100 : Int)) ∧ ((o.2.1 37).toInt ≤ (o.2.1 1).toInt ∧ aa ≤ (o.2.1 37).toInt))) {self59 : Int32 → Int32 → Int32 → Int32 → Int32 → (Nat → Int32) → (Nat → Nat → Int32) → Option (Int32 × MS)} {N59 : Nat} (hself59 : ∀ (x1 : Int32) (x2 : Int32) (x3 : Int32) (x4 : Int32) (x5 : Int32) (I : Nat → Int32) (A : Nat → Nat → Int32), TJ I → TK A → ((0 : Int) ≤ x1.toInt ∧ x1.toInt ≤ (1 : Int)) → ((0 : Int) ≤ x2.toInt ∧ x2.toInt ≤ (300 : Int)) → ((0 : Int) ≤ x3.toInt ∧ x3.toInt ≤ (2000 : Int)) → ((0 : Int) ≤ x4.toInt ∧ x4.toInt ≤ (1 : Int)) → ((0 : Int) ≤ x5.toInt ∧ x5.toInt ≤ (2000 : Int)) → ((I 37).toInt ≤ (I 1).toInt) → (aa ≤ (I 37).toInt) → (x5.toInt ≤ (I 37).toInt) → (((I 1).toInt - (I 37).toInt + 1) ≤ (N4 : Int)) → ((I 1).toInt - (I 37).toInt) < (N59 : Int) → Ok (self59 x1 x2 x3 x4 x5 I A) (fun o => TJ o.2.1 ∧ TK o.2.2 ∧ ((0 : Int) ≤ o.1.toInt ∧ o.1.toInt ≤ (92100 : Int)) ∧ ((o.2.1 37).toInt ≤ (o.2.1 1).toInt ∧ aa ≤ (o.2.1 37).toInt))) {x1 : Int32} {x2 : Int32} {x3 : Int32} {x4 : Int32} {x5 : Int32} (hI : TJ I) (hA : TK A) (r_x1 : (0 : Int) ≤ x1.toInt ∧ x1.toInt ≤ (1 : Int)) (r_x2 : (0 : Int) ≤ x2.toInt ∧ x2.toInt ≤ (300 : Int)) (r_x3 : (0 : Int) ≤ x3.toInt ∧ x3.toInt ≤ (2000 : Int)) (r_x4 : (0 : Int) ≤ x4.toInt ∧ x4.toInt ≤ (1 : Int)) (r_x5 : (0 : Int) ≤ x5.toInt ∧ x5.toInt ≤ (2000 : Int)) (q0 : (I 37).toInt < (I 1).toInt) (q1 : aa ≤ (I 37).toInt) (q2 : x5.toInt ≤ (I 37).toInt) (m4 : ((I 1).toInt - (I 37).toInt + 1) ≤ (N4 : Int)) (m59 : ((I 1).toInt - (I 37).toInt) ≤ (N59 : Int)) : Ok (f_readRemarks_119 self4 self59 x1 x2 x3 x4 x5 I A) (fun o => TJ o.2.1 ∧ TK o.2.2 ∧ ((0 : Int) ≤ o.1.toInt ∧ o.1.toInt ≤ (92100 : Int)) ∧ ((o.2.1 37).toInt ≤ (o.2.1 1).toInt ∧ aa ≤ (o.2.1 37).toInt)) := by
  unfold f_readRemarks_119
  have b_I_1 := tI_1 hI
  have b_I_37 := tI_37 hI
  refine ok_bnd (fun v1 e225 => ?_)
  have t_v1 : v1.toInt = (I 37).toInt + 1 := ti_add e225 rfl (show (1 : Int32).toInt = 1 from rfl) (by omega) (by omega)
  refine ok_bnd (fun I2 e226 => ?_)
  have hI_I2 : TJ I2 := e226.symm ▸ tj_u hI (k := 37) (show (0 : Int) ≤ v1.toInt from (by omega)) (show v1.toInt ≤ (2100 : Int) from (by omega))
  have : (I2 1).toInt = (I 1).toInt := by rw [e226]; rfl
  have : (I2 37).toInt = v1.toInt := by rw [e226]; exact rfl
  have b_I2_1 := tI_1 hI_I2
  have b_I2_37 := tI_37 hI_I2
  exact hself59 x1 x2 x3 x4 x5 I2 A hI_I2 hA r_x1 r_x2 r_x3 r_x4 r_x5 (by omega) (by omega) (by omega) (by omega) (by omega)
theorem t_readRemarks_96 {aa : Int} {I : Nat → Int32} {A : Nat → Nat → Int32} {self4 : Int32 → Int32 → (Nat → Int32) → (Nat → Nat → Int32) → Option (Int32 × MS)} {N4 : Nat} (hself4 : ∀ (x1 : Int32) (x2 : Int32) (I : Nat → Int32) (A : Nat → Nat → Int32), TJ I → TK A → ((0 : Int) ≤ x1.toInt ∧ x1.toInt ≤ (1 : Int)) → ((0 : Int) ≤ x2.toInt ∧ x2.toInt ≤ (300 : Int)) → ((I 37).toInt ≤ (I 1).toInt) → (aa ≤ (I 37).toInt) → ((I 1).toInt - (I 37).toInt) < (N4 : Int) → Ok (self4 x1 x2 I A) (fun o => TJ o.2.1 ∧ TK o.2.2 ∧ ((0 : Int) ≤ o.1.toInt ∧ o.1.toInt ≤ (92100 : Int)) ∧ ((o.2.1 37).toInt ≤ (o.2.1 1).toInt ∧ aa ≤ (o.2.1 37).toInt))) {self59 : Int32 → Int32 → Int32 → Int32 → Int32 → (Nat → Int32) → (Nat → Nat → Int32) → Option (Int32 × MS)} {N59 : Nat} (hself59 : ∀ (x1 : Int32) (x2 : Int32) (x3 : Int32) (x4 : Int32) (x5 : Int32) (I : Nat → Int32) (A : Nat → Nat → Int32), TJ I → TK A → ((0 : Int) ≤ x1.toInt ∧ x1.toInt ≤ (1 : Int)) → ((0 : Int) ≤ x2.toInt ∧ x2.toInt ≤ (300 : Int)) → ((0 : Int) ≤ x3.toInt ∧ x3.toInt ≤ (2000 : Int)) → ((0 : Int) ≤ x4.toInt ∧ x4.toInt ≤ (1 : Int)) → ((0 : Int) ≤ x5.toInt ∧ x5.toInt ≤ (2000 : Int)) → ((I 37).toInt ≤ (I 1).toInt) → (aa ≤ (I 37).toInt) → (x5.toInt ≤ (I 37).toInt) → (((I 1).toInt - (I 37).toInt + 1) ≤ (N4 : Int)) → ((I 1).toInt - (I 37).toInt) < (N59 : Int) → Ok (self59 x1 x2 x3 x4 x5 I A) (fun o => TJ o.2.1 ∧ TK o.2.2 ∧ ((0 : Int) ≤ o.1.toInt ∧ o.1.toInt ≤ (92100 : Int)) ∧ ((o.2.1 37).toInt ≤ (o.2.1 1).toInt ∧ aa ≤ (o.2.1 37).toInt))) {x1 : Int32} {x2 : Int32} {x3 : Int32} {x4 : Int32} {x5 : Int32} (hI : TJ I) (hA : TK A) (r_x1 : (0 : Int) ≤ x1.toInt ∧ x1.toInt ≤ (1 : Int)) (r_x2 : (0 : Int) ≤ x2.toInt ∧ x2.toInt ≤ (300 : Int)) (r_x3 : (0 : Int) ≤ x3.toInt ∧ x3.toInt ≤ (2000 : Int)) (r_x4 : (0 : Int) ≤ x4.toInt ∧ x4.toInt ≤ (1 : Int)) (r_x5 : (0 : Int) ≤ x5.toInt ∧ x5.toInt ≤ (2000 : Int)) (q0 : (I 37).toInt < (I 1).toInt) (q1 : aa ≤ (I 37).toInt) (q2 : x5.toInt ≤ (I 37).toInt) (m4 : ((I 1).toInt - (I 37).toInt + 1) ≤ (N4 : Int)) (m59 : ((I 1).toInt - (I 37).toInt) ≤ (N59 : Int)) : Ok (f_readRemarks_96 self4 self59 x1 x2 x3 x4 x5 I A) (fun o => TJ o.2.1 ∧ TK o.2.2 ∧ ((0 : Int) ≤ o.1.toInt ∧ o.1.toInt ≤ (92100 : Int)) ∧ ((o.2.1 37).toInt ≤ (o.2.1 1).toInt ∧ aa ≤ (o.2.1 37).toInt)) := by
  unfold f_readRemarks_96
  have b_I_1 := tI_1 hI
  have b_I_37 := tI_37 hI
  refine ok_if (fun c227 => ?_) (fun c227 => ?_)
  ·
    replace c227 := ti_eqP c227 rfl (show (0 : Int32).toInt = 0 from rfl)
    obtain ⟨r1, h_r1, p_r1⟩ := ro (t_look   hI hA )
    refine ok_clR h_r1 ?_
    dsimp only at p_r1
    refine ok_if (fun c228 => ?_) (fun c228 => ?_)
    ·
      replace c228 := ti_eqP c228 rfl (show (125 : Int32).toInt = 125 from rfl)
      obtain ⟨r2, h_r2, p_r2⟩ := ro (t_fault (x0 := (1 : Int32)) (x1 := (I 37))  hI hA (by decide) (by omega))
      refine ok_clR h_r2 ?_
      dsimp only at p_r2
      exact ok_ret ⟨hI, hA, (show (0 : Int) ≤ r2.toInt ∧ r2.toInt ≤ (92100 : Int) from (by omega)), (by show (I 37).toInt ≤ (I 1).toInt ∧ aa ≤ (I 37).toInt; omega)⟩
    ·
      replace c228 := ti_eqN c228 rfl (show (125 : Int32).toInt = 125 from rfl)
      exact t_readRemarks_119 (aa := aa)  hself4 hself59 (x1 := x1) (x2 := x2) (x3 := x3) (x4 := x4) (x5 := x5) hI hA r_x1 r_x2 r_x3 r_x4 r_x5 q0 q1 q2 m4 m59
  ·
    replace c227 := ti_eqN c227 rfl (show (0 : Int32).toInt = 0 from rfl)
    exact t_readRemarks_119 (aa := aa)  hself4 hself59 (x1 := x1) (x2 := x2) (x3 := x3) (x4 := x4) (x5 := x5) hI hA r_x1 r_x2 r_x3 r_x4 r_x5 q0 q1 q2 m4 m59
theorem t_readRemarks_59s {aa : Int} {I : Nat → Int32} {A : Nat → Nat → Int32} {self4 : Int32 → Int32 → (Nat → Int32) → (Nat → Nat → Int32) → Option (Int32 × MS)} {N4 : Nat} (hself4 : ∀ (x1 : Int32) (x2 : Int32) (I : Nat → Int32) (A : Nat → Nat → Int32), TJ I → TK A → ((0 : Int) ≤ x1.toInt ∧ x1.toInt ≤ (1 : Int)) → ((0 : Int) ≤ x2.toInt ∧ x2.toInt ≤ (300 : Int)) → ((I 37).toInt ≤ (I 1).toInt) → (aa ≤ (I 37).toInt) → ((I 1).toInt - (I 37).toInt) < (N4 : Int) → Ok (self4 x1 x2 I A) (fun o => TJ o.2.1 ∧ TK o.2.2 ∧ ((0 : Int) ≤ o.1.toInt ∧ o.1.toInt ≤ (92100 : Int)) ∧ ((o.2.1 37).toInt ≤ (o.2.1 1).toInt ∧ aa ≤ (o.2.1 37).toInt))) {self59 : Int32 → Int32 → Int32 → Int32 → Int32 → (Nat → Int32) → (Nat → Nat → Int32) → Option (Int32 × MS)} {N59 : Nat} (hself59 : ∀ (x1 : Int32) (x2 : Int32) (x3 : Int32) (x4 : Int32) (x5 : Int32) (I : Nat → Int32) (A : Nat → Nat → Int32), TJ I → TK A → ((0 : Int) ≤ x1.toInt ∧ x1.toInt ≤ (1 : Int)) → ((0 : Int) ≤ x2.toInt ∧ x2.toInt ≤ (300 : Int)) → ((0 : Int) ≤ x3.toInt ∧ x3.toInt ≤ (2000 : Int)) → ((0 : Int) ≤ x4.toInt ∧ x4.toInt ≤ (1 : Int)) → ((0 : Int) ≤ x5.toInt ∧ x5.toInt ≤ (2000 : Int)) → ((I 37).toInt ≤ (I 1).toInt) → (aa ≤ (I 37).toInt) → (x5.toInt ≤ (I 37).toInt) → (((I 1).toInt - (I 37).toInt + 1) ≤ (N4 : Int)) → ((I 1).toInt - (I 37).toInt) < (N59 : Int) → Ok (self59 x1 x2 x3 x4 x5 I A) (fun o => TJ o.2.1 ∧ TK o.2.2 ∧ ((0 : Int) ≤ o.1.toInt ∧ o.1.toInt ≤ (92100 : Int)) ∧ ((o.2.1 37).toInt ≤ (o.2.1 1).toInt ∧ aa ≤ (o.2.1 37).toInt))) {x1 : Int32} {x2 : Int32} {x3 : Int32} {x4 : Int32} {x5 : Int32} (hI : TJ I) (hA : TK A) (r_x1 : (0 : Int) ≤ x1.toInt ∧ x1.toInt ≤ (1 : Int)) (r_x2 : (0 : Int) ≤ x2.toInt ∧ x2.toInt ≤ (300 : Int)) (r_x3 : (0 : Int) ≤ x3.toInt ∧ x3.toInt ≤ (2000 : Int)) (r_x4 : (0 : Int) ≤ x4.toInt ∧ x4.toInt ≤ (1 : Int)) (r_x5 : (0 : Int) ≤ x5.toInt ∧ x5.toInt ≤ (2000 : Int)) (q0 : (I 37).toInt ≤ (I 1).toInt) (q1 : aa ≤ (I 37).toInt) (q2 : x5.toInt ≤ (I 37).toInt) (m4 : ((I 1).toInt - (I 37).toInt + 1) ≤ (N4 : Int)) (m59 : ((I 1).toInt - (I 37).toInt) ≤ (N59 : Int)) : Ok (f_readRemarks_59s self4 self59 x1 x2 x3 x4 x5 I A) (fun o => TJ o.2.1 ∧ TK o.2.2 ∧ ((0 : Int) ≤ o.1.toInt ∧ o.1.toInt ≤ (92100 : Int)) ∧ ((o.2.1 37).toInt ≤ (o.2.1 1).toInt ∧ aa ≤ (o.2.1 37).toInt)) := by
  unfold f_readRemarks_59s
  have b_I_1 := tI_1 hI
  have b_I_37 := tI_37 hI
  refine ok_if (fun c229 => ?_) (fun c229 => ?_)
  ·
    replace c229 := ti_leP c229 rfl rfl
    exact t_readRemarks_132 (aa := aa)  hself4 (x1 := x1) (x2 := x2) (x3 := x3) (x4 := x4) (x5 := x5) hI hA r_x1 r_x2 r_x3 r_x4 r_x5 q0 q1 q2 m4
  ·
    replace c229 := ti_leN c229 rfl rfl
    refine ok_if (fun c230 => ?_) (fun c230 => ?_)
    ·
      replace c230 := ti_eqP c230 rfl (show (0 : Int32).toInt = 0 from rfl)
      obtain ⟨r1, h_r1, p_r1⟩ := ro (t_look   hI hA )
      refine ok_clR h_r1 ?_
      dsimp only at p_r1
      refine ok_if (fun c231 => ?_) (fun c231 => ?_)
      ·
        replace c231 := ti_eqP c231 rfl (show (10 : Int32).toInt = 10 from rfl)
        exact t_readRemarks_132 (aa := aa)  hself4 (x1 := x1) (x2 := x2) (x3 := x3) (x4 := x4) (x5 := x5) hI hA r_x1 r_x2 r_x3 r_x4 r_x5 q0 q1 q2 m4
      ·
        replace c231 := ti_eqN c231 rfl (show (10 : Int32).toInt = 10 from rfl)
        exact t_readRemarks_96 (aa := aa)  hself4 hself59 (x1 := x1) (x2 := x2) (x3 := x3) (x4 := x4) (x5 := x5) hI hA r_x1 r_x2 r_x3 r_x4 r_x5 (by omega) q1 q2 m4 m59
    ·
      replace c230 := ti_eqN c230 rfl (show (0 : Int32).toInt = 0 from rfl)
      obtain ⟨r2, h_r2, p_r2⟩ := ro (t_look   hI hA )
      refine ok_clR h_r2 ?_
      dsimp only at p_r2
      refine ok_if (fun c232 => ?_) (fun c232 => ?_)
      ·
        replace c232 := ti_eqP c232 rfl (show (125 : Int32).toInt = 125 from rfl)
        exact t_readRemarks_132 (aa := aa)  hself4 (x1 := x1) (x2 := x2) (x3 := x3) (x4 := x4) (x5 := x5) hI hA r_x1 r_x2 r_x3 r_x4 r_x5 q0 q1 q2 m4
      ·
        replace c232 := ti_eqN c232 rfl (show (125 : Int32).toInt = 125 from rfl)
        exact t_readRemarks_96 (aa := aa)  hself4 hself59 (x1 := x1) (x2 := x2) (x3 := x3) (x4 := x4) (x5 := x5) hI hA r_x1 r_x2 r_x3 r_x4 r_x5 (by omega) q1 q2 m4 m59
theorem t_readRemarks_59 {aa : Int} {self4 : Int32 → Int32 → (Nat → Int32) → (Nat → Nat → Int32) → Option (Int32 × MS)} {N4 : Nat} (hself4 : ∀ (x1 : Int32) (x2 : Int32) (I : Nat → Int32) (A : Nat → Nat → Int32), TJ I → TK A → ((0 : Int) ≤ x1.toInt ∧ x1.toInt ≤ (1 : Int)) → ((0 : Int) ≤ x2.toInt ∧ x2.toInt ≤ (300 : Int)) → ((I 37).toInt ≤ (I 1).toInt) → (aa ≤ (I 37).toInt) → ((I 1).toInt - (I 37).toInt) < (N4 : Int) → Ok (self4 x1 x2 I A) (fun o => TJ o.2.1 ∧ TK o.2.2 ∧ ((0 : Int) ≤ o.1.toInt ∧ o.1.toInt ≤ (92100 : Int)) ∧ ((o.2.1 37).toInt ≤ (o.2.1 1).toInt ∧ aa ≤ (o.2.1 37).toInt))) : ∀ (n : Nat) (x1 : Int32) (x2 : Int32) (x3 : Int32) (x4 : Int32) (x5 : Int32) (I : Nat → Int32) (A : Nat → Nat → Int32), TJ I → TK A → ((0 : Int) ≤ x1.toInt ∧ x1.toInt ≤ (1 : Int)) → ((0 : Int) ≤ x2.toInt ∧ x2.toInt ≤ (300 : Int)) → ((0 : Int) ≤ x3.toInt ∧ x3.toInt ≤ (2000 : Int)) → ((0 : Int) ≤ x4.toInt ∧ x4.toInt ≤ (1 : Int)) → ((0 : Int) ≤ x5.toInt ∧ x5.toInt ≤ (2000 : Int)) → ((I 37).toInt ≤ (I 1).toInt) → (aa ≤ (I 37).toInt) → (x5.toInt ≤ (I 37).toInt) → (((I 1).toInt - (I 37).toInt + 1) ≤ (N4 : Int)) → ((I 1).toInt - (I 37).toInt) < (n : Int) → Ok (f_readRemarks_59 self4 n x1 x2 x3 x4 x5 I A) (fun o => TJ o.2.1 ∧ TK o.2.2 ∧ ((0 : Int) ≤ o.1.toInt ∧ o.1.toInt ≤ (92100 : Int)) ∧ ((o.2.1 37).toInt ≤ (o.2.1 1).toInt ∧ aa ≤ (o.2.1 37).toInt)) := by
  intro n
  induction n with
  | zero => intro x1 x2 x3 x4 x5 I A hI hA g0 g1 g2 g3 g4 g5 g6 g7 w0 hm; exfalso; omega
  | succ n ih =>
    intro x1 x2 x3 x4 x5 I A hI hA g0 g1 g2 g3 g4 g5 g6 g7 w0 hm
    exact t_readRemarks_59s (aa := aa)  (N59 := n) hself4 ih hI hA g0 g1 g2 g3 g4 g5 g6 g7 w0 (by omega)
theorem t_readRemarks_41 {aa : Int} {I : Nat → Int32} {A : Nat → Nat → Int32} {self4 : Int32 → Int32 → (Nat → Int32) → (Nat → Nat → Int32) → Option (Int32 × MS)} {N4 : Nat} (hself4 : ∀ (x1 : Int32) (x2 : Int32) (I : Nat → Int32) (A : Nat → Nat → Int32), TJ I → TK A → ((0 : Int) ≤ x1.toInt ∧ x1.toInt ≤ (1 : Int)) → ((0 : Int) ≤ x2.toInt ∧ x2.toInt ≤ (300 : Int)) → ((I 37).toInt ≤ (I 1).toInt) → (aa ≤ (I 37).toInt) → ((I 1).toInt - (I 37).toInt) < (N4 : Int) → Ok (self4 x1 x2 I A) (fun o => TJ o.2.1 ∧ TK o.2.2 ∧ ((0 : Int) ≤ o.1.toInt ∧ o.1.toInt ≤ (92100 : Int)) ∧ ((o.2.1 37).toInt ≤ (o.2.1 1).toInt ∧ aa ≤ (o.2.1 37).toInt))) {x1 : Int32} {x2 : Int32} {x3 : Int32} {t0 : Int32} (hI : TJ I) (hA : TK A) (r_x1 : (0 : Int) ≤ x1.toInt ∧ x1.toInt ≤ (1 : Int)) (r_x2 : (0 : Int) ≤ x2.toInt ∧ x2.toInt ≤ (300 : Int)) (r_x3 : (0 : Int) ≤ x3.toInt ∧ x3.toInt ≤ (2000 : Int)) (r_t0 : (0 : Int) ≤ t0.toInt ∧ t0.toInt ≤ (1 : Int)) (q0 : (I 37).toInt < (I 1).toInt) (q1 : aa ≤ (I 37).toInt) (m4 : ((I 1).toInt - (I 37).toInt) ≤ (N4 : Int)) : Ok (f_readRemarks_41 self4 x1 x2 x3 t0 I A) (fun o => TJ o.2.1 ∧ TK o.2.2 ∧ ((0 : Int) ≤ o.1.toInt ∧ o.1.toInt ≤ (92100 : Int)) ∧ ((o.2.1 37).toInt ≤ (o.2.1 1).toInt ∧ aa ≤ (o.2.1 37).toInt)) := by
  unfold f_readRemarks_41
  have b_I_1 := tI_1 hI
  have b_I_37 := tI_37 hI
  refine ok_bnd (fun v1 e233 => ?_)
  have t_v1 : v1.toInt = (I 37).toInt + 1 := ti_add e233 rfl (show (1 : Int32).toInt = 1 from rfl) (by omega) (by omega)
  refine ok_bnd (fun I2 e234 => ?_)
  have hI_I2 : TJ I2 := e234.symm ▸ tj_u hI (k := 37) (show (0 : Int) ≤ v1.toInt from (by omega)) (show v1.toInt ≤ (2100 : Int) from (by omega))
  have : (I2 1).toInt = (I 1).toInt := by rw [e234]; rfl
  have : (I2 37).toInt = v1.toInt := by rw [e234]; exact rfl
  have b_I2_37 := tI_37 hI_I2
  have b_I2_1 := tI_1 hI_I2
  exact t_readRemarks_59 (aa := aa)  hself4  mFuel x1 x2 x3 t0 (I2 37) I2 A hI_I2 hA r_x1 r_x2 r_x3 r_t0 (by omega) (by omega) (by omega) (by omega) (by omega) (by show _ < ((200000 : Nat) : Int); omega)
theorem t_readRemarks_22 {aa : Int} {I : Nat → Int32} {A : Nat → Nat → Int32} {self4 : Int32 → Int32 → (Nat → Int32) → (Nat → Nat → Int32) → Option (Int32 × MS)} {N4 : Nat} (hself4 : ∀ (x1 : Int32) (x2 : Int32) (I : Nat → Int32) (A : Nat → Nat → Int32), TJ I → TK A → ((0 : Int) ≤ x1.toInt ∧ x1.toInt ≤ (1 : Int)) → ((0 : Int) ≤ x2.toInt ∧ x2.toInt ≤ (300 : Int)) → ((I 37).toInt ≤ (I 1).toInt) → (aa ≤ (I 37).toInt) → ((I 1).toInt - (I 37).toInt) < (N4 : Int) → Ok (self4 x1 x2 I A) (fun o => TJ o.2.1 ∧ TK o.2.2 ∧ ((0 : Int) ≤ o.1.toInt ∧ o.1.toInt ≤ (92100 : Int)) ∧ ((o.2.1 37).toInt ≤ (o.2.1 1).toInt ∧ aa ≤ (o.2.1 37).toInt))) {x1 : Int32} {x2 : Int32} (hI : TJ I) (hA : TK A) (r_x1 : (0 : Int) ≤ x1.toInt ∧ x1.toInt ≤ (1 : Int)) (r_x2 : (0 : Int) ≤ x2.toInt ∧ x2.toInt ≤ (300 : Int)) (q0 : (I 37).toInt < (I 1).toInt) (q1 : aa ≤ (I 37).toInt) (m4 : ((I 1).toInt - (I 37).toInt) ≤ (N4 : Int)) : Ok (f_readRemarks_22 self4 x1 x2 I A) (fun o => TJ o.2.1 ∧ TK o.2.2 ∧ ((0 : Int) ≤ o.1.toInt ∧ o.1.toInt ≤ (92100 : Int)) ∧ ((o.2.1 37).toInt ≤ (o.2.1 1).toInt ∧ aa ≤ (o.2.1 37).toInt)) := by
  unfold f_readRemarks_22
  have b_I_1 := tI_1 hI
  have b_I_37 := tI_37 hI
  obtain ⟨r1, h_r1, p_r1⟩ := ro (t_look   hI hA )
  refine ok_clR h_r1 ?_
  dsimp only at p_r1
  refine ok_if (fun c235 => ?_) (fun c235 => ?_)
  ·
    replace c235 := ti_eqP c235 rfl (show (123 : Int32).toInt = 123 from rfl)
    exact t_readRemarks_41 (aa := aa)  hself4 (x1 := x1) (x2 := x2) (x3 := (I 37)) (t0 := (1 : Int32)) hI hA r_x1 r_x2 (by omega) (by decide) q0 q1 m4
  ·
    replace c235 := ti_eqN c235 rfl (show (123 : Int32).toInt = 123 from rfl)
    exact t_readRemarks_41 (aa := aa)  hself4 (x1 := x1) (x2 := x2) (x3 := (I 37)) (t0 := (0 : Int32)) hI hA r_x1 r_x2 (by omega) (by decide) q0 q1 m4
theorem t_readRemarks_4s {aa : Int} {I : Nat → Int32} {A : Nat → Nat → Int32} {self4 : Int32 → Int32 → (Nat → Int32) → (Nat → Nat → Int32) → Option (Int32 × MS)} {N4 : Nat} (hself4 : ∀ (x1 : Int32) (x2 : Int32) (I : Nat → Int32) (A : Nat → Nat → Int32), TJ I → TK A → ((0 : Int) ≤ x1.toInt ∧ x1.toInt ≤ (1 : Int)) → ((0 : Int) ≤ x2.toInt ∧ x2.toInt ≤ (300 : Int)) → ((I 37).toInt ≤ (I 1).toInt) → (aa ≤ (I 37).toInt) → ((I 1).toInt - (I 37).toInt) < (N4 : Int) → Ok (self4 x1 x2 I A) (fun o => TJ o.2.1 ∧ TK o.2.2 ∧ ((0 : Int) ≤ o.1.toInt ∧ o.1.toInt ≤ (92100 : Int)) ∧ ((o.2.1 37).toInt ≤ (o.2.1 1).toInt ∧ aa ≤ (o.2.1 37).toInt))) {x1 : Int32} {x2 : Int32} (hI : TJ I) (hA : TK A) (r_x1 : (0 : Int) ≤ x1.toInt ∧ x1.toInt ≤ (1 : Int)) (r_x2 : (0 : Int) ≤ x2.toInt ∧ x2.toInt ≤ (300 : Int)) (q0 : (I 37).toInt ≤ (I 1).toInt) (q1 : aa ≤ (I 37).toInt) (m4 : ((I 1).toInt - (I 37).toInt) ≤ (N4 : Int)) : Ok (f_readRemarks_4s self4 x1 x2 I A) (fun o => TJ o.2.1 ∧ TK o.2.2 ∧ ((0 : Int) ≤ o.1.toInt ∧ o.1.toInt ≤ (92100 : Int)) ∧ ((o.2.1 37).toInt ≤ (o.2.1 1).toInt ∧ aa ≤ (o.2.1 37).toInt)) := by
  unfold f_readRemarks_4s
  have b_I_1 := tI_1 hI
  have b_I_37 := tI_37 hI
  obtain ⟨r1, h_r1, p_r1⟩ := ro (t_look   hI hA )
  refine ok_clR h_r1 ?_
  dsimp only at p_r1
  refine ok_if (fun c236 => ?_) (fun c236 => ?_)
  ·
    replace c236 := ti_eqP c236 rfl (show (123 : Int32).toInt = 123 from rfl)
    exact t_readRemarks_22 (aa := aa)  hself4 (x1 := x1) (x2 := x2) hI hA r_x1 r_x2 (by omega) q1 m4
  ·
    replace c236 := ti_eqN c236 rfl (show (123 : Int32).toInt = 123 from rfl)
    obtain ⟨r2, h_r2, p_r2⟩ := ro (t_look   hI hA )
    refine ok_clR h_r2 ?_
    dsimp only at p_r2
    refine ok_if (fun c237 => ?_) (fun c237 => ?_)
    ·
      replace c237 := ti_eqP c237 rfl (show (59 : Int32).toInt = 59 from rfl)
      exact t_readRemarks_22 (aa := aa)  hself4 (x1 := x1) (x2 := x2) hI hA r_x1 r_x2 (by omega) q1 m4
    ·
      replace c237 := ti_eqN c237 rfl (show (59 : Int32).toInt = 59 from rfl)
      exact ok_ret ⟨hI, hA, (show (0 : Int) ≤ (0 : Int32).toInt ∧ (0 : Int32).toInt ≤ (92100 : Int) from (by decide)), (by show (I 37).toInt ≤ (I 1).toInt ∧ aa ≤ (I 37).toInt; have z : (0 : Int32).toInt = 0 := rfl; omega)⟩
theorem t_readRemarks_4 {aa : Int}  : ∀ (n : Nat) (x1 : Int32) (x2 : Int32) (I : Nat → Int32) (A : Nat → Nat → Int32), TJ I → TK A → ((0 : Int) ≤ x1.toInt ∧ x1.toInt ≤ (1 : Int)) → ((0 : Int) ≤ x2.toInt ∧ x2.toInt ≤ (300 : Int)) → ((I 37).toInt ≤ (I 1).toInt) → (aa ≤ (I 37).toInt) → ((I 1).toInt - (I 37).toInt) < (n : Int) → Ok (f_readRemarks_4  n x1 x2 I A) (fun o => TJ o.2.1 ∧ TK o.2.2 ∧ ((0 : Int) ≤ o.1.toInt ∧ o.1.toInt ≤ (92100 : Int)) ∧ ((o.2.1 37).toInt ≤ (o.2.1 1).toInt ∧ aa ≤ (o.2.1 37).toInt)) := by
  intro n
  induction n with
  | zero => intro x1 x2 I A hI hA g0 g1 g2 g3  hm; exfalso; omega
  | succ n ih =>
    intro x1 x2 I A hI hA g0 g1 g2 g3  hm
    exact t_readRemarks_4s (aa := aa)  (N4 := n)  ih hI hA g0 g1 g2 g3  (by omega)
theorem t_readRemarks_0 {aa : Int} {I : Nat → Int32} {A : Nat → Nat → Int32} {x1 : Int32} {x2 : Int32} (hI : TJ I) (hA : TK A) (r_x1 : (0 : Int) ≤ x1.toInt ∧ x1.toInt ≤ (1 : Int)) (r_x2 : (0 : Int) ≤ x2.toInt ∧ x2.toInt ≤ (300 : Int)) (q0 : (I 37).toInt ≤ (I 1).toInt) (q1 : aa ≤ (I 37).toInt) : Ok (f_readRemarks_0 x1 x2 I A) (fun o => TJ o.2.1 ∧ TK o.2.2 ∧ ((0 : Int) ≤ o.1.toInt ∧ o.1.toInt ≤ (92100 : Int)) ∧ ((o.2.1 37).toInt ≤ (o.2.1 1).toInt ∧ aa ≤ (o.2.1 37).toInt)) := by
  unfold f_readRemarks_0
  have b_I_1 := tI_1 hI
  have b_I_37 := tI_37 hI
  obtain ⟨⟨r1, Ic1, Ac1⟩, h_r1, hI_Ic1, hA_Ac1, p_r1_0⟩ := t_blanks   hI hA (show (I 37).toInt ≤ (I 37).toInt ∧ (I 37).toInt ≤ (I 1).toInt ∧ (I 1).toInt ≤ (I 1).toInt from ⟨Int.le_refl _, by omega, Int.le_refl _⟩)
  replace hI_Ic1 : TJ Ic1 := hI_Ic1
  replace hA_Ac1 : TK Ac1 := hA_Ac1
  dsimp only at p_r1_0
  refine ok_clR h_r1 ?_
  have f_r1 := fw_blanks h_r1
  have : (Ic1 1).toInt = (I 1).toInt := congrArg Int32.toInt (f_r1.1 1 (by decide))
  have b_Ic1_1 := tI_1 hI_Ic1
  have b_Ic1_37 := tI_37 hI_Ic1
  exact t_readRemarks_4 (aa := aa)    mFuel x1 x2 Ic1 Ac1 hI_Ic1 hA_Ac1 r_x1 r_x2 (by omega) (by omega) (by show _ < ((200000 : Nat) : Int); omega)
theorem t_readRemarks {aa : Int} {I : Nat → Int32} {A : Nat → Nat → Int32} {x1 : Int32} {x2 : Int32} (hI : TJ I) (hA : TK A) (r_x1 : (0 : Int) ≤ x1.toInt ∧ x1.toInt ≤ (1 : Int)) (r_x2 : (0 : Int) ≤ x2.toInt ∧ x2.toInt ≤ (300 : Int)) (q0 : (I 37).toInt ≤ (I 1).toInt) (q1 : aa ≤ (I 37).toInt) : Ok (f_readRemarks x1 x2 I A) (fun o => TJ o.2.1 ∧ TK o.2.2 ∧ ((0 : Int) ≤ o.1.toInt ∧ o.1.toInt ≤ (92100 : Int)) ∧ ((o.2.1 37).toInt ≤ (o.2.1 1).toInt ∧ aa ≤ (o.2.1 37).toInt)) := t_readRemarks_0 (aa := aa) hI hA r_x1 r_x2 q0 q1
theorem t_goesOnWith_0  {I : Nat → Int32} {A : Nat → Nat → Int32} {x1 : Int32} {x2 : Int32} {x3 : Int32} (hI : TJ I) (hA : TK A) : Ok (f_goesOnWith_0 x1 x2 x3 I A) (fun o => o.2 = (I, A) ∧ ((0 : Int) ≤ o.1.toInt ∧ o.1.toInt ≤ (1 : Int))) := by
  unfold f_goesOnWith_0
  refine ok_bnd (fun v1 e238 => ?_)
  have b_I_37 := tI_37 hI
  have t_v1 : v1.toInt = (I 37).toInt + 2 := ti_add e238 rfl (show (2 : Int32).toInt = 2 from rfl) (by omega) (by omega)
  have b_I_1 := tI_1 hI
  refine ok_if (fun c239 => ?_) (fun c239 => ?_)
  ·
    replace c239 := ti_leP c239 rfl rfl
    unfold f_goesOnWith_60
    unfold f_goesOnWith_61
    refine ok_chk (by decide) ?_
    exact ok_ret ⟨rfl, (show (0 : Int) ≤ (0 : Int32).toInt ∧ (0 : Int32).toInt ≤ (1 : Int) from (by decide))⟩
  ·
    replace c239 := ti_leN c239 rfl rfl
    refine ok_chk (ti_in (by omega) (by omega)) ?_
    refine ok_bnd (fun v2 e240 => ?_)
    have b_v2 := tA_2 hA (((I 37)).toNatClampNeg)
    rw [← e240] at b_v2
    refine ok_if (fun c241 => ?_) (fun c241 => ?_)
    ·
      replace c241 := ti_eqP c241 rfl rfl
      refine ok_bnd (fun v3 e242 => ?_)
      have t_v3 : v3.toInt = (I 37).toInt + 1 := ti_add e242 rfl (show (1 : Int32).toInt = 1 from rfl) (by omega) (by omega)
      refine ok_chk (ti_in (by omega) (by omega)) ?_
      refine ok_bnd (fun v4 e243 => ?_)
      have b_v4 := tA_2 hA ((v3).toNatClampNeg)
      rw [← e243] at b_v4
      refine ok_if (fun c244 => ?_) (fun c244 => ?_)
      ·
        replace c244 := ti_eqP c244 rfl rfl
        refine ok_bnd (fun v5 e245 => ?_)
        have t_v5 : v5.toInt = (I 37).toInt + 2 := ti_add e245 rfl (show (2 : Int32).toInt = 2 from rfl) (by omega) (by omega)
        refine ok_chk (ti_in (by omega) (by omega)) ?_
        refine ok_bnd (fun v6 e246 => ?_)
        have b_v6 := tA_2 hA ((v5).toNatClampNeg)
        rw [← e246] at b_v6
        refine ok_if (fun c247 => ?_) (fun c247 => ?_)
        ·
          replace c247 := ti_eqP c247 rfl rfl
          unfold f_goesOnWith_61
          refine ok_chk (by decide) ?_
          exact ok_ret ⟨rfl, (show (0 : Int) ≤ (1 : Int32).toInt ∧ (1 : Int32).toInt ≤ (1 : Int) from (by decide))⟩
        ·
          replace c247 := ti_eqN c247 rfl rfl
          unfold f_goesOnWith_60
          unfold f_goesOnWith_61
          refine ok_chk (by decide) ?_
          exact ok_ret ⟨rfl, (show (0 : Int) ≤ (0 : Int32).toInt ∧ (0 : Int32).toInt ≤ (1 : Int) from (by decide))⟩
      ·
        replace c244 := ti_eqN c244 rfl rfl
        unfold f_goesOnWith_60
        unfold f_goesOnWith_61
        refine ok_chk (by decide) ?_
        exact ok_ret ⟨rfl, (show (0 : Int) ≤ (0 : Int32).toInt ∧ (0 : Int32).toInt ≤ (1 : Int) from (by decide))⟩
    ·
      replace c241 := ti_eqN c241 rfl rfl
      unfold f_goesOnWith_60
      unfold f_goesOnWith_61
      refine ok_chk (by decide) ?_
      exact ok_ret ⟨rfl, (show (0 : Int) ≤ (0 : Int32).toInt ∧ (0 : Int32).toInt ≤ (1 : Int) from (by decide))⟩
theorem t_goesOnWith  {I : Nat → Int32} {A : Nat → Nat → Int32} {x1 : Int32} {x2 : Int32} {x3 : Int32} (hI : TJ I) (hA : TK A) : Ok (f_goesOnWith x1 x2 x3 I A) (fun o => o.2 = (I, A) ∧ ((0 : Int) ≤ o.1.toInt ∧ o.1.toInt ≤ (1 : Int))) := t_goesOnWith_0  hI hA 
theorem t_resultHere_0  {I : Nat → Int32} {A : Nat → Nat → Int32} (hI : TJ I) (hA : TK A) : Ok (f_resultHere_0 I A) (fun o => o.2 = (I, A) ∧ ((-1 : Int) ≤ o.1.toInt ∧ o.1.toInt ≤ (3 : Int))) := by
  unfold f_resultHere_0
  obtain ⟨r1, h_r1, p_r1⟩ := ro (t_look   hI hA )
  refine ok_clR h_r1 ?_
  dsimp only at p_r1
  refine ok_if (fun c248 => ?_) (fun c248 => ?_)
  ·
    replace c248 := ti_eqP c248 rfl (show (42 : Int32).toInt = 42 from rfl)
    exact ok_ret ⟨rfl, (show (-1 : Int) ≤ (0 : Int32).toInt ∧ (0 : Int32).toInt ≤ (3 : Int) from (by decide))⟩
  ·
    replace c248 := ti_eqN c248 rfl (show (42 : Int32).toInt = 42 from rfl)
    obtain ⟨r2, h_r2, p_r2⟩ := ro (t_goesOnWith (x1 := (49 : Int32)) (x2 := (45 : Int32)) (x3 := (48 : Int32))  hI hA )
    refine ok_clR h_r2 ?_
    dsimp only at p_r2
    refine ok_if (fun c249 => ?_) (fun c249 => ?_)
    ·
      replace c249 := ti_eqP c249 rfl (show (0 : Int32).toInt = 0 from rfl)
      obtain ⟨r3, h_r3, p_r3⟩ := ro (t_goesOnWith (x1 := (48 : Int32)) (x2 := (45 : Int32)) (x3 := (49 : Int32))  hI hA )
      refine ok_clR h_r3 ?_
      dsimp only at p_r3
      refine ok_if (fun c250 => ?_) (fun c250 => ?_)
      ·
        replace c250 := ti_eqP c250 rfl (show (0 : Int32).toInt = 0 from rfl)
        obtain ⟨r4, h_r4, p_r4⟩ := ro (t_goesOnWith (x1 := (49 : Int32)) (x2 := (47 : Int32)) (x3 := (50 : Int32))  hI hA )
        refine ok_clR h_r4 ?_
        dsimp only at p_r4
        refine ok_if (fun c251 => ?_) (fun c251 => ?_)
        ·
          replace c251 := ti_eqP c251 rfl (show (0 : Int32).toInt = 0 from rfl)
          unfold f_resultHere_137
          unfold f_resultHere_138
          refine ok_ifT (by decide) ?_
          unfold f_resultHere_148
          exact ok_ret ⟨rfl, (show (-1 : Int) ≤ (-1 : Int32).toInt ∧ (-1 : Int32).toInt ≤ (3 : Int) from (by decide))⟩
        ·
          replace c251 := ti_eqN c251 rfl (show (0 : Int32).toInt = 0 from rfl)
          refine ok_bnd (fun v5 e252 => ?_)
          have b_I_37 := tI_37 hI
          have t_v5 : v5.toInt = (I 37).toInt + 6 := ti_add e252 rfl (show (6 : Int32).toInt = 6 from rfl) (by omega) (by omega)
          have b_I_1 := tI_1 hI
          refine ok_if (fun c253 => ?_) (fun c253 => ?_)
          ·
            replace c253 := ti_leP c253 rfl rfl
            unfold f_resultHere_137
            unfold f_resultHere_138
            refine ok_ifT (by decide) ?_
            unfold f_resultHere_148
            exact ok_ret ⟨rfl, (show (-1 : Int) ≤ (-1 : Int32).toInt ∧ (-1 : Int32).toInt ≤ (3 : Int) from (by decide))⟩
          ·
            replace c253 := ti_leN c253 rfl rfl
            refine ok_bnd (fun v6 e254 => ?_)
            have t_v6 : v6.toInt = (I 37).toInt + 3 := ti_add e254 rfl (show (3 : Int32).toInt = 3 from rfl) (by omega) (by omega)
            refine ok_chk (ti_in (by omega) (by omega)) ?_
            refine ok_bnd (fun v7 e255 => ?_)
            have b_v7 := tA_2 hA ((v6).toNatClampNeg)
            rw [← e255] at b_v7
            refine ok_if (fun c256 => ?_) (fun c256 => ?_)
            ·
              replace c256 := ti_eqP c256 rfl (show (45 : Int32).toInt = 45 from rfl)
              refine ok_bnd (fun v8 e257 => ?_)
              have t_v8 : v8.toInt = (I 37).toInt + 4 := ti_add e257 rfl (show (4 : Int32).toInt = 4 from rfl) (by omega) (by omega)
              refine ok_chk (ti_in (by omega) (by omega)) ?_
              refine ok_bnd (fun v9 e258 => ?_)
              have b_v9 := tA_2 hA ((v8).toNatClampNeg)
              rw [← e258] at b_v9
              refine ok_if (fun c259 => ?_) (fun c259 => ?_)
              ·
                replace c259 := ti_eqP c259 rfl (show (49 : Int32).toInt = 49 from rfl)
                refine ok_bnd (fun v10 e260 => ?_)
                have t_v10 : v10.toInt = (I 37).toInt + 5 := ti_add e260 rfl (show (5 : Int32).toInt = 5 from rfl) (by omega) (by omega)
                refine ok_chk (ti_in (by omega) (by omega)) ?_
                refine ok_bnd (fun v11 e261 => ?_)
                have b_v11 := tA_2 hA ((v10).toNatClampNeg)
                rw [← e261] at b_v11
                refine ok_if (fun c262 => ?_) (fun c262 => ?_)
                ·
                  replace c262 := ti_eqP c262 rfl (show (47 : Int32).toInt = 47 from rfl)
                  refine ok_bnd (fun v12 e263 => ?_)
                  have t_v12 : v12.toInt = (I 37).toInt + 6 := ti_add e263 rfl (show (6 : Int32).toInt = 6 from rfl) (by omega) (by omega)
                  refine ok_chk (ti_in (by omega) (by omega)) ?_
                  refine ok_bnd (fun v13 e264 => ?_)
                  have b_v13 := tA_2 hA ((v12).toNatClampNeg)
                  rw [← e264] at b_v13
                  refine ok_if (fun c265 => ?_) (fun c265 => ?_)
                  ·
                    replace c265 := ti_eqP c265 rfl (show (50 : Int32).toInt = 50 from rfl)
                    unfold f_resultHere_138
                    refine ok_ifF (by decide) ?_
                    unfold f_resultHere_148
                    exact ok_ret ⟨rfl, (show (-1 : Int) ≤ (3 : Int32).toInt ∧ (3 : Int32).toInt ≤ (3 : Int) from (by decide))⟩
                  ·
                    replace c265 := ti_eqN c265 rfl (show (50 : Int32).toInt = 50 from rfl)
                    unfold f_resultHere_137
                    unfold f_resultHere_138
                    refine ok_ifT (by decide) ?_
                    unfold f_resultHere_148
                    exact ok_ret ⟨rfl, (show (-1 : Int) ≤ (-1 : Int32).toInt ∧ (-1 : Int32).toInt ≤ (3 : Int) from (by decide))⟩
                ·
                  replace c262 := ti_eqN c262 rfl (show (47 : Int32).toInt = 47 from rfl)
                  unfold f_resultHere_137
                  unfold f_resultHere_138
                  refine ok_ifT (by decide) ?_
                  unfold f_resultHere_148
                  exact ok_ret ⟨rfl, (show (-1 : Int) ≤ (-1 : Int32).toInt ∧ (-1 : Int32).toInt ≤ (3 : Int) from (by decide))⟩
              ·
                replace c259 := ti_eqN c259 rfl (show (49 : Int32).toInt = 49 from rfl)
                unfold f_resultHere_137
                unfold f_resultHere_138
                refine ok_ifT (by decide) ?_
                unfold f_resultHere_148
                exact ok_ret ⟨rfl, (show (-1 : Int) ≤ (-1 : Int32).toInt ∧ (-1 : Int32).toInt ≤ (3 : Int) from (by decide))⟩
            ·
              replace c256 := ti_eqN c256 rfl (show (45 : Int32).toInt = 45 from rfl)
              unfold f_resultHere_137
              unfold f_resultHere_138
              refine ok_ifT (by decide) ?_
              unfold f_resultHere_148
              exact ok_ret ⟨rfl, (show (-1 : Int) ≤ (-1 : Int32).toInt ∧ (-1 : Int32).toInt ≤ (3 : Int) from (by decide))⟩
      ·
        replace c250 := ti_eqN c250 rfl (show (0 : Int32).toInt = 0 from rfl)
        exact ok_ret ⟨rfl, (show (-1 : Int) ≤ (2 : Int32).toInt ∧ (2 : Int32).toInt ≤ (3 : Int) from (by decide))⟩
    ·
      replace c249 := ti_eqN c249 rfl (show (0 : Int32).toInt = 0 from rfl)
      exact ok_ret ⟨rfl, (show (-1 : Int) ≤ (1 : Int32).toInt ∧ (1 : Int32).toInt ≤ (3 : Int) from (by decide))⟩
theorem t_resultHere  {I : Nat → Int32} {A : Nat → Nat → Int32}  (hI : TJ I) (hA : TK A) : Ok (f_resultHere  I A) (fun o => o.2 = (I, A) ∧ ((-1 : Int) ≤ o.1.toInt ∧ o.1.toInt ≤ (3 : Int))) := t_resultHere_0  hI hA 
theorem t_addMarkTo_0  {I : Nat → Int32} {A : Nat → Nat → Int32} {x1 : Int32} {x2 : Int32} {x3 : Int32} (hI : TJ I) (hA : TK A) (r_x1 : (0 : Int) ≤ x1.toInt ∧ x1.toInt ≤ (1 : Int)) (r_x2 : (0 : Int) ≤ x2.toInt ∧ x2.toInt ≤ (300 : Int)) (r_x3 : (0 : Int) ≤ x3.toInt ∧ x3.toInt ≤ (255 : Int)) (q0 : m3 A x1.toInt x2.toInt) : Ok (f_addMarkTo_0 x1 x2 x3 I A) (fun o => TJ o.2.1 ∧ TK o.2.2 ∧ True) := by
  unfold f_addMarkTo_0
  refine ok_bnd (fun v1 e266 => ?_)
  have t_v1 : v1.toInt = 301 * x1.toInt := ti_mul e266 (show (301 : Int32).toInt = 301 from rfl) rfl (by omega) (by omega)
  refine ok_bnd (fun v2 e267 => ?_)
  have t_v2 : v2.toInt = v1.toInt + x2.toInt := ti_add e267 rfl rfl (by omega) (by omega)
  refine ok_bnd (fun v3 e268 => ?_)
  have t_v3 : v3.toInt = 4 * v2.toInt := ti_mul e268 (show (4 : Int32).toInt = 4 from rfl) rfl (by omega) (by omega)
  refine ok_chk (ti_in (by omega) (by omega)) ?_
  refine ok_bnd (fun v4 e269 => ?_)
  have b_v4 := tA_12 hA ((v2).toNatClampNeg)
  rw [← e269] at b_v4
  have i4 : v2.toNatClampNeg = (301 * x1.toInt + x2.toInt).toNat := by have := ti_nc (a := v2) (by omega); omega
  have l4 : v4.toInt ≤ 3 := by rw [e269, i4]; exact q0
  refine ok_bnd (fun v5 e270 => ?_)
  have t_v5 : v5.toInt = v3.toInt + v4.toInt := ti_add e270 rfl rfl (by omega) (by omega)
  refine ok_chk (ti_in (by omega) (by omega)) ?_
  refine ok_bnd (fun A6 e271 => ?_)
  have hA_A6 : TK A6 := e271.symm ▸ tk_u hA (j := 13) (show (0 : Int) ≤ x3.toInt from (by omega)) (show x3.toInt ≤ (255 : Int) from (by omega))
  have k272 : m3 A6 x1.toInt x2.toInt := m3_fr (show A6 12 = A 12 by rw [e271]; exact va_up_ne _ _ (by decide)) q0
  refine ok_chk (ti_in (by omega) (by omega)) ?_
  refine ok_bnd (fun v7 e273 => ?_)
  have b_v7 := tA_12 hA_A6 ((v2).toNatClampNeg)
  rw [← e273] at b_v7
  have l7 : v7.toInt ≤ 3 := by rw [e273, e271, va_up_ne _ _ (by decide), i4]; exact q0
  refine ok_bnd (fun v8 e274 => ?_)
  have t_v8 : v8.toInt = v7.toInt + 1 := ti_add e274 rfl (show (1 : Int32).toInt = 1 from rfl) (by omega) (by omega)
  refine ok_chk (ti_in (by omega) (by omega)) ?_
  refine ok_bnd (fun A9 e275 => ?_)
  have hA_A9 : TK A9 := e275.symm ▸ tk_u hA_A6 (j := 12) (show (0 : Int) ≤ v8.toInt from (by omega)) (show v8.toInt ≤ (4 : Int) from (by omega))
  exact ok_ret ⟨hI, hA_A9, trivial⟩
theorem t_addMarkTo  {I : Nat → Int32} {A : Nat → Nat → Int32} {x1 : Int32} {x2 : Int32} {x3 : Int32} (hI : TJ I) (hA : TK A) (r_x1 : (0 : Int) ≤ x1.toInt ∧ x1.toInt ≤ (1 : Int)) (r_x2 : (0 : Int) ≤ x2.toInt ∧ x2.toInt ≤ (300 : Int)) (r_x3 : (0 : Int) ≤ x3.toInt ∧ x3.toInt ≤ (255 : Int)) (q0 : m3 A x1.toInt x2.toInt) : Ok (f_addMarkTo x1 x2 x3 I A) (fun o => TJ o.2.1 ∧ TK o.2.2 ∧ True) := t_addMarkTo_0  hI hA r_x1 r_x2 r_x3 q0
theorem t_readMarks_236 {aa : Int} {I : Nat → Int32} {A : Nat → Nat → Int32} (hI : TJ I) (hA : TK A) (q0 : (I 37).toInt ≤ (I 1).toInt) (q1 : aa ≤ (I 37).toInt) : Ok (f_readMarks_236 I A) (fun o => TJ o.2.1 ∧ TK o.2.2 ∧ ((0 : Int) ≤ o.1.toInt ∧ o.1.toInt ≤ (92100 : Int)) ∧ ((o.2.1 37).toInt ≤ (o.2.1 1).toInt ∧ aa ≤ (o.2.1 37).toInt)) := by
  unfold f_readMarks_236
  have b_I_1 := tI_1 hI
  have b_I_37 := tI_37 hI
  obtain ⟨r1, h_r1, p_r1⟩ := ro (t_fault (x0 := (1 : Int32)) (x1 := (I 37))  hI hA (by decide) (by omega))
  refine ok_clR h_r1 ?_
  dsimp only at p_r1
  exact ok_ret ⟨hI, hA, (show (0 : Int) ≤ r1.toInt ∧ r1.toInt ≤ (92100 : Int) from (by omega)), (by show (I 37).toInt ≤ (I 1).toInt ∧ aa ≤ (I 37).toInt; omega)⟩
theorem t_readMarks_269 {aa : Int} {I : Nat → Int32} {A : Nat → Nat → Int32} {x3 : Int32} (hI : TJ I) (hA : TK A) (r_x3 : (0 : Int) ≤ x3.toInt ∧ x3.toInt ≤ (2000 : Int)) (q0 : (I 37).toInt ≤ (I 1).toInt) (q1 : aa ≤ (I 37).toInt) : Ok (f_readMarks_269 x3 I A) (fun o => TJ o.2.1 ∧ TK o.2.2 ∧ ((0 : Int) ≤ o.1.toInt ∧ o.1.toInt ≤ (92100 : Int)) ∧ ((o.2.1 37).toInt ≤ (o.2.1 1).toInt ∧ aa ≤ (o.2.1 37).toInt)) := by
  unfold f_readMarks_269
  have b_I_1 := tI_1 hI
  have b_I_37 := tI_37 hI
  obtain ⟨r1, h_r1, p_r1⟩ := ro (t_fault (x0 := (8 : Int32)) (x1 := x3)  hI hA (by decide) (by omega))
  refine ok_clR h_r1 ?_
  dsimp only at p_r1
  exact ok_ret ⟨hI, hA, (show (0 : Int) ≤ r1.toInt ∧ r1.toInt ≤ (92100 : Int) from (by omega)), (by show (I 37).toInt ≤ (I 1).toInt ∧ aa ≤ (I 37).toInt; omega)⟩
theorem t_readMarks_221 {aa : Int} {I : Nat → Int32} {A : Nat → Nat → Int32} {self144 : Int32 → Int32 → (Nat → Int32) → (Nat → Nat → Int32) → Option (Int32 × MS)} {N144 : Nat} (hself144 : ∀ (x1 : Int32) (x2 : Int32) (I : Nat → Int32) (A : Nat → Nat → Int32), TJ I → TK A → ((0 : Int) ≤ x1.toInt ∧ x1.toInt ≤ (1 : Int)) → ((0 : Int) ≤ x2.toInt ∧ x2.toInt ≤ (300 : Int)) → ((I 37).toInt ≤ (I 1).toInt) → (aa ≤ (I 37).toInt) → ((I 1).toInt - (I 37).toInt) < (N144 : Int) → Ok (self144 x1 x2 I A) (fun o => TJ o.2.1 ∧ TK o.2.2 ∧ ((0 : Int) ≤ o.1.toInt ∧ o.1.toInt ≤ (92100 : Int)) ∧ ((o.2.1 37).toInt ≤ (o.2.1 1).toInt ∧ aa ≤ (o.2.1 37).toInt))) {x1 : Int32} {x2 : Int32} {x3 : Int32} {x4 : Int32} {x5 : Int32} (hI : TJ I) (hA : TK A) (r_x1 : (0 : Int) ≤ x1.toInt ∧ x1.toInt ≤ (1 : Int)) (r_x2 : (0 : Int) ≤ x2.toInt ∧ x2.toInt ≤ (300 : Int)) (r_x3 : (0 : Int) ≤ x3.toInt ∧ x3.toInt ≤ (2000 : Int)) (r_x4 : (0 : Int) ≤ x4.toInt ∧ x4.toInt ≤ (999 : Int)) (r_x5 : (0 : Int) ≤ x5.toInt ∧ x5.toInt ≤ (3 : Int)) (q0 : (I 37).toInt ≤ (I 1).toInt) (q1 : aa ≤ (I 37).toInt) (m144 : ((I 1).toInt - (I 37).toInt + 1) ≤ (N144 : Int)) : Ok (f_readMarks_221 self144 x1 x2 x3 x4 x5 I A) (fun o => TJ o.2.1 ∧ TK o.2.2 ∧ ((0 : Int) ≤ o.1.toInt ∧ o.1.toInt ≤ (92100 : Int)) ∧ ((o.2.1 37).toInt ≤ (o.2.1 1).toInt ∧ aa ≤ (o.2.1 37).toInt)) := by
  unfold f_readMarks_221
  have b_I_1 := tI_1 hI
  have b_I_37 := tI_37 hI
  refine ok_if (fun c276 => ?_) (fun c276 => ?_)
  ·
    replace c276 := ti_eqP c276 rfl (show (0 : Int32).toInt = 0 from rfl)
    exact t_readMarks_236 (aa := aa)    hI hA q0 q1
  ·
    replace c276 := ti_eqN c276 rfl (show (0 : Int32).toInt = 0 from rfl)
    obtain ⟨r1, h_r1, p_r1⟩ := ro (t_look   hI hA )
    refine ok_clR h_r1 ?_
    dsimp only at p_r1
    obtain ⟨r2, h_r2, p_r2⟩ := ro (t_isDigit (x0 := r1)  hI hA )
    refine ok_clR h_r2 ?_
    dsimp only at p_r2
    refine ok_if (fun c277 => ?_) (fun c277 => ?_)
    ·
      replace c277 := ti_eqP c277 rfl (show (0 : Int32).toInt = 0 from rfl)
      refine ok_if (fun c278 => ?_) (fun c278 => ?_)
      ·
        replace c278 := ti_ltP c278 (show (255 : Int32).toInt = 255 from rfl) rfl
        exact t_readMarks_269 (aa := aa)   (x3 := x3) hI hA r_x3 q0 q1
      ·
        replace c278 := ti_ltN c278 (show (255 : Int32).toInt = 255 from rfl) rfl
        refine ok_bnd (fun v3 e279 => ?_)
        have t_v3 : v3.toInt = 301 * x1.toInt := ti_mul e279 (show (301 : Int32).toInt = 301 from rfl) rfl (by omega) (by omega)
        refine ok_bnd (fun v4 e280 => ?_)
        have t_v4 : v4.toInt = v3.toInt + x2.toInt := ti_add e280 rfl rfl (by omega) (by omega)
        refine ok_chk (ti_in (by omega) (by omega)) ?_
        refine ok_bnd (fun v5 e281 => ?_)
        have b_v5 := tA_12 hA ((v4).toNatClampNeg)
        rw [← e281] at b_v5
        have i5 : v4.toNatClampNeg = (301 * x1.toInt + x2.toInt).toNat := by have := ti_nc (a := v4) (by omega); omega
        have j5 : (A 12 (301 * x1.toInt + x2.toInt).toNat).toInt = v5.toInt := by rw [e281, i5]
        refine ok_if (fun c282 => ?_) (fun c282 => ?_)
        ·
          replace c282 := ti_eqP c282 rfl (show (4 : Int32).toInt = 4 from rfl)
          exact t_readMarks_269 (aa := aa)   (x3 := x3) hI hA r_x3 q0 q1
        ·
          replace c282 := ti_eqN c282 rfl (show (4 : Int32).toInt = 4 from rfl)
          obtain ⟨⟨r6, Ic6, Ac6⟩, h_r6, hI_Ic6, hA_Ac6, -⟩ := t_addMarkTo (x1 := x1) (x2 := x2) (x3 := x4)  hI hA r_x1 r_x2 (by omega) (by unfold m3; omega)
          replace hI_Ic6 : TJ Ic6 := hI_Ic6
          replace hA_Ac6 : TK Ac6 := hA_Ac6
          refine ok_clR h_r6 ?_
          have f_r6 := fw_addMarkTo h_r6
          have : (Ic6 1).toInt = (I 1).toInt := congrArg Int32.toInt (f_r6.1 1 (by decide))
          have : (Ic6 37).toInt = (I 37).toInt := congrArg Int32.toInt (f_r6.1 37 (by decide))
          have b_Ic6_1 := tI_1 hI_Ic6
          have b_Ic6_37 := tI_37 hI_Ic6
          obtain ⟨⟨r7, Ic7, Ac7⟩, h_r7, hI_Ic7, hA_Ac7, p_r7_0⟩ := t_blanks   hI_Ic6 hA_Ac6 (show (Ic6 37).toInt ≤ (Ic6 37).toInt ∧ (Ic6 37).toInt ≤ (Ic6 1).toInt ∧ (Ic6 1).toInt ≤ (Ic6 1).toInt from ⟨Int.le_refl _, by omega, Int.le_refl _⟩)
          replace hI_Ic7 : TJ Ic7 := hI_Ic7
          replace hA_Ac7 : TK Ac7 := hA_Ac7
          dsimp only at p_r7_0
          refine ok_clR h_r7 ?_
          have f_r7 := fw_blanks h_r7
          have : (Ic7 1).toInt = (Ic6 1).toInt := congrArg Int32.toInt (f_r7.1 1 (by decide))
          have b_Ic7_1 := tI_1 hI_Ic7
          have b_Ic7_37 := tI_37 hI_Ic7
          exact hself144 x1 x2 Ic7 Ac7 hI_Ic7 hA_Ac7 r_x1 r_x2 (by omega) (by omega) (by omega)
    ·
      replace c277 := ti_eqN c277 rfl (show (0 : Int32).toInt = 0 from rfl)
      exact t_readMarks_236 (aa := aa)    hI hA q0 q1
theorem t_readMarks_174s {aa : Int} {I : Nat → Int32} {A : Nat → Nat → Int32} {self144 : Int32 → Int32 → (Nat → Int32) → (Nat → Nat → Int32) → Option (Int32 × MS)} {N144 : Nat} (hself144 : ∀ (x1 : Int32) (x2 : Int32) (I : Nat → Int32) (A : Nat → Nat → Int32), TJ I → TK A → ((0 : Int) ≤ x1.toInt ∧ x1.toInt ≤ (1 : Int)) → ((0 : Int) ≤ x2.toInt ∧ x2.toInt ≤ (300 : Int)) → ((I 37).toInt ≤ (I 1).toInt) → (aa ≤ (I 37).toInt) → ((I 1).toInt - (I 37).toInt) < (N144 : Int) → Ok (self144 x1 x2 I A) (fun o => TJ o.2.1 ∧ TK o.2.2 ∧ ((0 : Int) ≤ o.1.toInt ∧ o.1.toInt ≤ (92100 : Int)) ∧ ((o.2.1 37).toInt ≤ (o.2.1 1).toInt ∧ aa ≤ (o.2.1 37).toInt))) {self174 : Int32 → Int32 → Int32 → Int32 → Int32 → (Nat → Int32) → (Nat → Nat → Int32) → Option (Int32 × MS)} {N174 : Nat} (hself174 : ∀ (x1 : Int32) (x2 : Int32) (x3 : Int32) (x4 : Int32) (x5 : Int32) (I : Nat → Int32) (A : Nat → Nat → Int32), TJ I → TK A → ((0 : Int) ≤ x1.toInt ∧ x1.toInt ≤ (1 : Int)) → ((0 : Int) ≤ x2.toInt ∧ x2.toInt ≤ (300 : Int)) → ((0 : Int) ≤ x3.toInt ∧ x3.toInt ≤ (2000 : Int)) → ((0 : Int) ≤ x4.toInt ∧ x4.toInt ≤ (999 : Int)) → ((0 : Int) ≤ x5.toInt ∧ x5.toInt ≤ (3 : Int)) → ((I 37).toInt ≤ (I 1).toInt) → (aa ≤ (I 37).toInt) → ((x5.toInt = 0 → x4.toInt = 0) ∧ (x5.toInt ≤ 1 → x4.toInt ≤ 9) ∧ (x5.toInt ≤ 2 → x4.toInt ≤ 99) ∧ (x5.toInt ≤ 3 → x4.toInt ≤ 999)) → (((I 1).toInt - (I 37).toInt + 1) ≤ (N144 : Int)) → (4 - x5.toInt) < (N174 : Int) → Ok (self174 x1 x2 x3 x4 x5 I A) (fun o => TJ o.2.1 ∧ TK o.2.2 ∧ ((0 : Int) ≤ o.1.toInt ∧ o.1.toInt ≤ (92100 : Int)) ∧ ((o.2.1 37).toInt ≤ (o.2.1 1).toInt ∧ aa ≤ (o.2.1 37).toInt))) {x1 : Int32} {x2 : Int32} {x3 : Int32} {x4 : Int32} {x5 : Int32} (hI : TJ I) (hA : TK A) (r_x1 : (0 : Int) ≤ x1.toInt ∧ x1.toInt ≤ (1 : Int)) (r_x2 : (0 : Int) ≤ x2.toInt ∧ x2.toInt ≤ (300 : Int)) (r_x3 : (0 : Int) ≤ x3.toInt ∧ x3.toInt ≤ (2000 : Int)) (r_x4 : (0 : Int) ≤ x4.toInt ∧ x4.toInt ≤ (999 : Int)) (r_x5 : (0 : Int) ≤ x5.toInt ∧ x5.toInt ≤ (3 : Int)) (q0 : (I 37).toInt ≤ (I 1).toInt) (q1 : aa ≤ (I 37).toInt) (q2 : (x5.toInt = 0 → x4.toInt = 0) ∧ (x5.toInt ≤ 1 → x4.toInt ≤ 9) ∧ (x5.toInt ≤ 2 → x4.toInt ≤ 99) ∧ (x5.toInt ≤ 3 → x4.toInt ≤ 999)) (m144 : ((I 1).toInt - (I 37).toInt + 1) ≤ (N144 : Int)) (m174 : (4 - x5.toInt) ≤ (N174 : Int)) : Ok (f_readMarks_174s self144 self174 x1 x2 x3 x4 x5 I A) (fun o => TJ o.2.1 ∧ TK o.2.2 ∧ ((0 : Int) ≤ o.1.toInt ∧ o.1.toInt ≤ (92100 : Int)) ∧ ((o.2.1 37).toInt ≤ (o.2.1 1).toInt ∧ aa ≤ (o.2.1 37).toInt)) := by
  unfold f_readMarks_174s
  have b_I_1 := tI_1 hI
  have b_I_37 := tI_37 hI
  obtain ⟨r1, h_r1, p_r1⟩ := ro (t_look   hI hA )
  refine ok_clR h_r1 ?_
  dsimp only at p_r1
  obtain ⟨r2, h_r2, p_r2⟩ := ro (t_isDigit (x0 := r1)  hI hA )
  refine ok_clR h_r2 ?_
  dsimp only at p_r2
  refine ok_if (fun c283 => ?_) (fun c283 => ?_)
  ·
    replace c283 := ti_eqP c283 rfl (show (0 : Int32).toInt = 0 from rfl)
    exact t_readMarks_221 (aa := aa)  hself144 (x1 := x1) (x2 := x2) (x3 := x3) (x4 := x4) (x5 := x5) hI hA r_x1 r_x2 r_x3 r_x4 r_x5 q0 q1 m144
  ·
    replace c283 := ti_eqN c283 rfl (show (0 : Int32).toInt = 0 from rfl)
    refine ok_if (fun c284 => ?_) (fun c284 => ?_)
    ·
      replace c284 := ti_leP c284 (show (3 : Int32).toInt = 3 from rfl) rfl
      exact t_readMarks_221 (aa := aa)  hself144 (x1 := x1) (x2 := x2) (x3 := x3) (x4 := x4) (x5 := x5) hI hA r_x1 r_x2 r_x3 r_x4 r_x5 q0 q1 m144
    ·
      replace c284 := ti_leN c284 (show (3 : Int32).toInt = 3 from rfl) rfl
      refine ok_bnd (fun v3 e285 => ?_)
      have t_v3 : v3.toInt = 10 * x4.toInt := ti_mul e285 (show (10 : Int32).toInt = 10 from rfl) rfl (by omega) (by omega)
      obtain ⟨r4, h_r4, p_r4⟩ := ro (t_look   hI hA )
      refine ok_clR h_r4 ?_
      dsimp only at p_r4
      have e4 : r4.toInt = r1.toInt := by rw [ro_eq h_r1 h_r4]
      refine ok_bnd (fun v5 e286 => ?_)
      have t_v5 : v5.toInt = v3.toInt + r4.toInt := ti_add e286 rfl rfl (by omega) (by omega)
      refine ok_bnd (fun v6 e287 => ?_)
      have t_v6 : v6.toInt = v5.toInt - 48 := ti_sub e287 rfl (show (48 : Int32).toInt = 48 from rfl) (by omega) (by omega)
      refine ok_bnd (fun v7 e288 => ?_)
      have t_v7 : v7.toInt = x5.toInt + 1 := ti_add e288 rfl (show (1 : Int32).toInt = 1 from rfl) (by omega) (by omega)
      refine ok_bnd (fun v8 e289 => ?_)
      have t_v8 : v8.toInt = (I 37).toInt + 1 := ti_add e289 rfl (show (1 : Int32).toInt = 1 from rfl) (by omega) (by omega)
      refine ok_bnd (fun I9 e290 => ?_)
      have hI_I9 : TJ I9 := e290.symm ▸ tj_u hI (k := 37) (show (0 : Int) ≤ v8.toInt from (by omega)) (show v8.toInt ≤ (2100 : Int) from (by omega))
      have : (I9 1).toInt = (I 1).toInt := by rw [e290]; rfl
      have : (I9 37).toInt = v8.toInt := by rw [e290]; exact rfl
      have b_I9_1 := tI_1 hI_I9
      have b_I9_37 := tI_37 hI_I9
      exact hself174 x1 x2 x3 v6 v7 I9 A hI_I9 hA r_x1 r_x2 r_x3 (by omega) (by omega) (by omega) (by omega) (by omega) (by omega) (by omega)
theorem t_readMarks_174 {aa : Int} {self144 : Int32 → Int32 → (Nat → Int32) → (Nat → Nat → Int32) → Option (Int32 × MS)} {N144 : Nat} (hself144 : ∀ (x1 : Int32) (x2 : Int32) (I : Nat → Int32) (A : Nat → Nat → Int32), TJ I → TK A → ((0 : Int) ≤ x1.toInt ∧ x1.toInt ≤ (1 : Int)) → ((0 : Int) ≤ x2.toInt ∧ x2.toInt ≤ (300 : Int)) → ((I 37).toInt ≤ (I 1).toInt) → (aa ≤ (I 37).toInt) → ((I 1).toInt - (I 37).toInt) < (N144 : Int) → Ok (self144 x1 x2 I A) (fun o => TJ o.2.1 ∧ TK o.2.2 ∧ ((0 : Int) ≤ o.1.toInt ∧ o.1.toInt ≤ (92100 : Int)) ∧ ((o.2.1 37).toInt ≤ (o.2.1 1).toInt ∧ aa ≤ (o.2.1 37).toInt))) : ∀ (n : Nat) (x1 : Int32) (x2 : Int32) (x3 : Int32) (x4 : Int32) (x5 : Int32) (I : Nat → Int32) (A : Nat → Nat → Int32), TJ I → TK A → ((0 : Int) ≤ x1.toInt ∧ x1.toInt ≤ (1 : Int)) → ((0 : Int) ≤ x2.toInt ∧ x2.toInt ≤ (300 : Int)) → ((0 : Int) ≤ x3.toInt ∧ x3.toInt ≤ (2000 : Int)) → ((0 : Int) ≤ x4.toInt ∧ x4.toInt ≤ (999 : Int)) → ((0 : Int) ≤ x5.toInt ∧ x5.toInt ≤ (3 : Int)) → ((I 37).toInt ≤ (I 1).toInt) → (aa ≤ (I 37).toInt) → ((x5.toInt = 0 → x4.toInt = 0) ∧ (x5.toInt ≤ 1 → x4.toInt ≤ 9) ∧ (x5.toInt ≤ 2 → x4.toInt ≤ 99) ∧ (x5.toInt ≤ 3 → x4.toInt ≤ 999)) → (((I 1).toInt - (I 37).toInt + 1) ≤ (N144 : Int)) → (4 - x5.toInt) < (n : Int) → Ok (f_readMarks_174 self144 n x1 x2 x3 x4 x5 I A) (fun o => TJ o.2.1 ∧ TK o.2.2 ∧ ((0 : Int) ≤ o.1.toInt ∧ o.1.toInt ≤ (92100 : Int)) ∧ ((o.2.1 37).toInt ≤ (o.2.1 1).toInt ∧ aa ≤ (o.2.1 37).toInt)) := by
  intro n
  induction n with
  | zero => intro x1 x2 x3 x4 x5 I A hI hA g0 g1 g2 g3 g4 g5 g6 g7 w0 hm; exfalso; omega
  | succ n ih =>
    intro x1 x2 x3 x4 x5 I A hI hA g0 g1 g2 g3 g4 g5 g6 g7 w0 hm
    exact t_readMarks_174s (aa := aa)  (N174 := n) hself144 ih hI hA g0 g1 g2 g3 g4 g5 g6 g7 w0 (by omega)
theorem t_readMarks_144s {aa : Int} {I : Nat → Int32} {A : Nat → Nat → Int32} {self144 : Int32 → Int32 → (Nat → Int32) → (Nat → Nat → Int32) → Option (Int32 × MS)} {N144 : Nat} (hself144 : ∀ (x1 : Int32) (x2 : Int32) (I : Nat → Int32) (A : Nat → Nat → Int32), TJ I → TK A → ((0 : Int) ≤ x1.toInt ∧ x1.toInt ≤ (1 : Int)) → ((0 : Int) ≤ x2.toInt ∧ x2.toInt ≤ (300 : Int)) → ((I 37).toInt ≤ (I 1).toInt) → (aa ≤ (I 37).toInt) → ((I 1).toInt - (I 37).toInt) < (N144 : Int) → Ok (self144 x1 x2 I A) (fun o => TJ o.2.1 ∧ TK o.2.2 ∧ ((0 : Int) ≤ o.1.toInt ∧ o.1.toInt ≤ (92100 : Int)) ∧ ((o.2.1 37).toInt ≤ (o.2.1 1).toInt ∧ aa ≤ (o.2.1 37).toInt))) {x1 : Int32} {x2 : Int32} (hI : TJ I) (hA : TK A) (r_x1 : (0 : Int) ≤ x1.toInt ∧ x1.toInt ≤ (1 : Int)) (r_x2 : (0 : Int) ≤ x2.toInt ∧ x2.toInt ≤ (300 : Int)) (q0 : (I 37).toInt ≤ (I 1).toInt) (q1 : aa ≤ (I 37).toInt) (m144 : ((I 1).toInt - (I 37).toInt) ≤ (N144 : Int)) : Ok (f_readMarks_144s self144 x1 x2 I A) (fun o => TJ o.2.1 ∧ TK o.2.2 ∧ ((0 : Int) ≤ o.1.toInt ∧ o.1.toInt ≤ (92100 : Int)) ∧ ((o.2.1 37).toInt ≤ (o.2.1 1).toInt ∧ aa ≤ (o.2.1 37).toInt)) := by
  unfold f_readMarks_144s
  have b_I_1 := tI_1 hI
  have b_I_37 := tI_37 hI
  obtain ⟨r1, h_r1, p_r1⟩ := ro (t_look   hI hA )
  refine ok_clR h_r1 ?_
  dsimp only at p_r1
  refine ok_if (fun c291 => ?_) (fun c291 => ?_)
  ·
    replace c291 := ti_eqP c291 rfl (show (36 : Int32).toInt = 36 from rfl)
    refine ok_bnd (fun v2 e292 => ?_)
    have t_v2 : v2.toInt = (I 37).toInt + 1 := ti_add e292 rfl (show (1 : Int32).toInt = 1 from rfl) (by omega) (by omega)
    refine ok_bnd (fun I3 e293 => ?_)
    have hI_I3 : TJ I3 := e293.symm ▸ tj_u hI (k := 37) (show (0 : Int) ≤ v2.toInt from (by omega)) (show v2.toInt ≤ (2100 : Int) from (by omega))
    have : (I3 1).toInt = (I 1).toInt := by rw [e293]; rfl
    have : (I3 37).toInt = v2.toInt := by rw [e293]; exact rfl
    have b_I3_1 := tI_1 hI_I3
    have b_I3_37 := tI_37 hI_I3
    exact t_readMarks_174 (aa := aa)  hself144  mFuel x1 x2 (I 37) (0 : Int32) (0 : Int32) I3 A hI_I3 hA r_x1 r_x2 (by omega) (by decide) (by decide) (by have z0 : (0 : Int32).toInt = 0 := rfl; have z1 : (0 : Int32).toInt = 0 := rfl; omega) (by have z0 : (0 : Int32).toInt = 0 := rfl; have z1 : (0 : Int32).toInt = 0 := rfl; omega) (by have z0 : (0 : Int32).toInt = 0 := rfl; have z1 : (0 : Int32).toInt = 0 := rfl; omega) (by have z0 : (0 : Int32).toInt = 0 := rfl; have z1 : (0 : Int32).toInt = 0 := rfl; omega) (by show _ < ((200000 : Nat) : Int); have z0 : (0 : Int32).toInt = 0 := rfl; have z1 : (0 : Int32).toInt = 0 := rfl; omega)
  ·
    replace c291 := ti_eqN c291 rfl (show (36 : Int32).toInt = 36 from rfl)
    exact ok_ret ⟨hI, hA, (show (0 : Int) ≤ (0 : Int32).toInt ∧ (0 : Int32).toInt ≤ (92100 : Int) from (by decide)), (by show (I 37).toInt ≤ (I 1).toInt ∧ aa ≤ (I 37).toInt; have z : (0 : Int32).toInt = 0 := rfl; omega)⟩
theorem t_readMarks_144 {aa : Int}  : ∀ (n : Nat) (x1 : Int32) (x2 : Int32) (I : Nat → Int32) (A : Nat → Nat → Int32), TJ I → TK A → ((0 : Int) ≤ x1.toInt ∧ x1.toInt ≤ (1 : Int)) → ((0 : Int) ≤ x2.toInt ∧ x2.toInt ≤ (300 : Int)) → ((I 37).toInt ≤ (I 1).toInt) → (aa ≤ (I 37).toInt) → ((I 1).toInt - (I 37).toInt) < (n : Int) → Ok (f_readMarks_144  n x1 x2 I A) (fun o => TJ o.2.1 ∧ TK o.2.2 ∧ ((0 : Int) ≤ o.1.toInt ∧ o.1.toInt ≤ (92100 : Int)) ∧ ((o.2.1 37).toInt ≤ (o.2.1 1).toInt ∧ aa ≤ (o.2.1 37).toInt)) := by
  intro n
  induction n with
  | zero => intro x1 x2 I A hI hA g0 g1 g2 g3  hm; exfalso; omega
  | succ n ih =>
    intro x1 x2 I A hI hA g0 g1 g2 g3  hm
    exact t_readMarks_144s (aa := aa)  (N144 := n)  ih hI hA g0 g1 g2 g3  (by omega)
theorem t_readMarks_132 {aa : Int} {I : Nat → Int32} {A : Nat → Nat → Int32} {x1 : Int32} {x2 : Int32} {x4 : Int32} (hI : TJ I) (hA : TK A) (r_x1 : (0 : Int) ≤ x1.toInt ∧ x1.toInt ≤ (1 : Int)) (r_x2 : (0 : Int) ≤ x2.toInt ∧ x2.toInt ≤ (300 : Int)) (r_x4 : (1 : Int) ≤ x4.toInt ∧ x4.toInt ≤ (6 : Int)) (q0 : (I 37).toInt ≤ (I 1).toInt) (q1 : aa ≤ (I 37).toInt) (q2 : m3 A x1.toInt x2.toInt) : Ok (f_readMarks_132 x1 x2 x4 I A) (fun o => TJ o.2.1 ∧ TK o.2.2 ∧ ((0 : Int) ≤ o.1.toInt ∧ o.1.toInt ≤ (92100 : Int)) ∧ ((o.2.1 37).toInt ≤ (o.2.1 1).toInt ∧ aa ≤ (o.2.1 37).toInt)) := by
  unfold f_readMarks_132
  have b_I_1 := tI_1 hI
  have b_I_37 := tI_37 hI
  obtain ⟨⟨r1, Ic1, Ac1⟩, h_r1, hI_Ic1, hA_Ac1, -⟩ := t_addMarkTo (x1 := x1) (x2 := x2) (x3 := x4)  hI hA r_x1 r_x2 (by omega) q2
  replace hI_Ic1 : TJ Ic1 := hI_Ic1
  replace hA_Ac1 : TK Ac1 := hA_Ac1
  refine ok_clR h_r1 ?_
  have f_r1 := fw_addMarkTo h_r1
  have : (Ic1 1).toInt = (I 1).toInt := congrArg Int32.toInt (f_r1.1 1 (by decide))
  have : (Ic1 37).toInt = (I 37).toInt := congrArg Int32.toInt (f_r1.1 37 (by decide))
  have b_Ic1_1 := tI_1 hI_Ic1
  have b_Ic1_37 := tI_37 hI_Ic1
  obtain ⟨⟨r2, Ic2, Ac2⟩, h_r2, hI_Ic2, hA_Ac2, p_r2_0⟩ := t_blanks   hI_Ic1 hA_Ac1 (show (Ic1 37).toInt ≤ (Ic1 37).toInt ∧ (Ic1 37).toInt ≤ (Ic1 1).toInt ∧ (Ic1 1).toInt ≤ (Ic1 1).toInt from ⟨Int.le_refl _, by omega, Int.le_refl _⟩)
  replace hI_Ic2 : TJ Ic2 := hI_Ic2
  replace hA_Ac2 : TK Ac2 := hA_Ac2
  dsimp only at p_r2_0
  refine ok_clR h_r2 ?_
  have f_r2 := fw_blanks h_r2
  have : (Ic2 1).toInt = (Ic1 1).toInt := congrArg Int32.toInt (f_r2.1 1 (by decide))
  have b_Ic2_1 := tI_1 hI_Ic2
  have b_Ic2_37 := tI_37 hI_Ic2
  exact t_readMarks_144 (aa := aa)    mFuel x1 x2 Ic2 Ac2 hI_Ic2 hA_Ac2 r_x1 r_x2 (by omega) (by omega) (by show _ < ((200000 : Nat) : Int); omega)
theorem t_readMarks_120 {aa : Int} {I : Nat → Int32} {A : Nat → Nat → Int32} {x1 : Int32} {x2 : Int32} {t0 : Int32} (hI : TJ I) (hA : TK A) (r_x1 : (0 : Int) ≤ x1.toInt ∧ x1.toInt ≤ (1 : Int)) (r_x2 : (0 : Int) ≤ x2.toInt ∧ x2.toInt ≤ (300 : Int)) (r_t0 : (1 : Int) ≤ t0.toInt ∧ t0.toInt ≤ (6 : Int)) (q0 : (I 37).toInt < (I 1).toInt) (q1 : aa ≤ (I 37).toInt) (q2 : m3 A x1.toInt x2.toInt) : Ok (f_readMarks_120 x1 x2 t0 I A) (fun o => TJ o.2.1 ∧ TK o.2.2 ∧ ((0 : Int) ≤ o.1.toInt ∧ o.1.toInt ≤ (92100 : Int)) ∧ ((o.2.1 37).toInt ≤ (o.2.1 1).toInt ∧ aa ≤ (o.2.1 37).toInt)) := by
  unfold f_readMarks_120
  have b_I_1 := tI_1 hI
  have b_I_37 := tI_37 hI
  refine ok_bnd (fun v1 e294 => ?_)
  have t_v1 : v1.toInt = (I 37).toInt + 1 := ti_add e294 rfl (show (1 : Int32).toInt = 1 from rfl) (by omega) (by omega)
  refine ok_bnd (fun I2 e295 => ?_)
  have hI_I2 : TJ I2 := e295.symm ▸ tj_u hI (k := 37) (show (0 : Int) ≤ v1.toInt from (by omega)) (show v1.toInt ≤ (2100 : Int) from (by omega))
  have : (I2 1).toInt = (I 1).toInt := by rw [e295]; rfl
  have : (I2 37).toInt = v1.toInt := by rw [e295]; exact rfl
  have b_I2_1 := tI_1 hI_I2
  have b_I2_37 := tI_37 hI_I2
  exact t_readMarks_132 (aa := aa)   (x1 := x1) (x2 := x2) (x4 := t0) hI_I2 hA r_x1 r_x2 r_t0 (by omega) (by omega) q2
theorem t_readMarks_90 {aa : Int} {I : Nat → Int32} {A : Nat → Nat → Int32} {x1 : Int32} {x2 : Int32} {x3 : Int32} {t0 : Int32} (hI : TJ I) (hA : TK A) (r_x1 : (0 : Int) ≤ x1.toInt ∧ x1.toInt ≤ (1 : Int)) (r_x2 : (0 : Int) ≤ x2.toInt ∧ x2.toInt ≤ (300 : Int)) (r_x3 : (0 : Int) ≤ x3.toInt ∧ x3.toInt ≤ (1 : Int)) (r_t0 : (0 : Int) ≤ t0.toInt ∧ t0.toInt ≤ (1 : Int)) (q0 : (I 37).toInt < (I 1).toInt) (q1 : aa ≤ (I 37).toInt) (q2 : m3 A x1.toInt x2.toInt) : Ok (f_readMarks_90 x1 x2 x3 t0 I A) (fun o => TJ o.2.1 ∧ TK o.2.2 ∧ ((0 : Int) ≤ o.1.toInt ∧ o.1.toInt ≤ (92100 : Int)) ∧ ((o.2.1 37).toInt ≤ (o.2.1 1).toInt ∧ aa ≤ (o.2.1 37).toInt)) := by
  unfold f_readMarks_90
  have b_I_1 := tI_1 hI
  have b_I_37 := tI_37 hI
  refine ok_if (fun c296 => ?_) (fun c296 => ?_)
  ·
    replace c296 := ti_eqP c296 rfl (show (0 : Int32).toInt = 0 from rfl)
    refine ok_if (fun c297 => ?_) (fun c297 => ?_)
    ·
      replace c297 := ti_eqP c297 rfl (show (0 : Int32).toInt = 0 from rfl)
      exact t_readMarks_120 (aa := aa)   (x1 := x1) (x2 := x2) (t0 := (4 : Int32)) hI hA r_x1 r_x2 (by decide) q0 q1 q2
    ·
      replace c297 := ti_eqN c297 rfl (show (0 : Int32).toInt = 0 from rfl)
      exact t_readMarks_120 (aa := aa)   (x1 := x1) (x2 := x2) (t0 := (6 : Int32)) hI hA r_x1 r_x2 (by decide) q0 q1 q2
  ·
    replace c296 := ti_eqN c296 rfl (show (0 : Int32).toInt = 0 from rfl)
    refine ok_if (fun c298 => ?_) (fun c298 => ?_)
    ·
      replace c298 := ti_eqP c298 rfl (show (0 : Int32).toInt = 0 from rfl)
      exact t_readMarks_120 (aa := aa)   (x1 := x1) (x2 := x2) (t0 := (5 : Int32)) hI hA r_x1 r_x2 (by decide) q0 q1 q2
    ·
      replace c298 := ti_eqN c298 rfl (show (0 : Int32).toInt = 0 from rfl)
      exact t_readMarks_120 (aa := aa)   (x1 := x1) (x2 := x2) (t0 := (3 : Int32)) hI hA r_x1 r_x2 (by decide) q0 q1 q2
theorem t_readMarks_76 {aa : Int} {I : Nat → Int32} {A : Nat → Nat → Int32} {x1 : Int32} {x2 : Int32} {x3 : Int32} (hI : TJ I) (hA : TK A) (r_x1 : (0 : Int) ≤ x1.toInt ∧ x1.toInt ≤ (1 : Int)) (r_x2 : (0 : Int) ≤ x2.toInt ∧ x2.toInt ≤ (300 : Int)) (r_x3 : (0 : Int) ≤ x3.toInt ∧ x3.toInt ≤ (1 : Int)) (q0 : (I 37).toInt < (I 1).toInt) (q1 : aa ≤ (I 37).toInt) (q2 : m3 A x1.toInt x2.toInt) : Ok (f_readMarks_76 x1 x2 x3 I A) (fun o => TJ o.2.1 ∧ TK o.2.2 ∧ ((0 : Int) ≤ o.1.toInt ∧ o.1.toInt ≤ (92100 : Int)) ∧ ((o.2.1 37).toInt ≤ (o.2.1 1).toInt ∧ aa ≤ (o.2.1 37).toInt)) := by
  unfold f_readMarks_76
  have b_I_1 := tI_1 hI
  have b_I_37 := tI_37 hI
  obtain ⟨r1, h_r1, p_r1⟩ := ro (t_look   hI hA )
  refine ok_clR h_r1 ?_
  dsimp only at p_r1
  refine ok_if (fun c299 => ?_) (fun c299 => ?_)
  ·
    replace c299 := ti_eqP c299 rfl (show (33 : Int32).toInt = 33 from rfl)
    exact t_readMarks_90 (aa := aa)   (x1 := x1) (x2 := x2) (x3 := x3) (t0 := (1 : Int32)) hI hA r_x1 r_x2 r_x3 (by decide) q0 q1 q2
  ·
    replace c299 := ti_eqN c299 rfl (show (33 : Int32).toInt = 33 from rfl)
    exact t_readMarks_90 (aa := aa)   (x1 := x1) (x2 := x2) (x3 := x3) (t0 := (0 : Int32)) hI hA r_x1 r_x2 r_x3 (by decide) q0 q1 q2
theorem t_readMarks_56 {aa : Int} {I : Nat → Int32} {A : Nat → Nat → Int32} {x1 : Int32} {x2 : Int32} {x3 : Int32} {t0 : Int32} (hI : TJ I) (hA : TK A) (r_x1 : (0 : Int) ≤ x1.toInt ∧ x1.toInt ≤ (1 : Int)) (r_x2 : (0 : Int) ≤ x2.toInt ∧ x2.toInt ≤ (300 : Int)) (r_x3 : (0 : Int) ≤ x3.toInt ∧ x3.toInt ≤ (1 : Int)) (r_t0 : (1 : Int) ≤ t0.toInt ∧ t0.toInt ≤ (2 : Int)) (q0 : (I 37).toInt ≤ (I 1).toInt) (q1 : aa ≤ (I 37).toInt) (q2 : m3 A x1.toInt x2.toInt) : Ok (f_readMarks_56 x1 x2 x3 t0 I A) (fun o => TJ o.2.1 ∧ TK o.2.2 ∧ ((0 : Int) ≤ o.1.toInt ∧ o.1.toInt ≤ (92100 : Int)) ∧ ((o.2.1 37).toInt ≤ (o.2.1 1).toInt ∧ aa ≤ (o.2.1 37).toInt)) := by
  unfold f_readMarks_56
  have b_I_1 := tI_1 hI
  have b_I_37 := tI_37 hI
  obtain ⟨r1, h_r1, p_r1⟩ := ro (t_look   hI hA )
  refine ok_clR h_r1 ?_
  dsimp only at p_r1
  refine ok_if (fun c300 => ?_) (fun c300 => ?_)
  ·
    replace c300 := ti_eqP c300 rfl (show (33 : Int32).toInt = 33 from rfl)
    exact t_readMarks_76 (aa := aa)   (x1 := x1) (x2 := x2) (x3 := x3) hI hA r_x1 r_x2 r_x3 (by omega) q1 q2
  ·
    replace c300 := ti_eqN c300 rfl (show (33 : Int32).toInt = 33 from rfl)
    obtain ⟨r2, h_r2, p_r2⟩ := ro (t_look   hI hA )
    refine ok_clR h_r2 ?_
    dsimp only at p_r2
    refine ok_if (fun c301 => ?_) (fun c301 => ?_)
    ·
      replace c301 := ti_eqP c301 rfl (show (63 : Int32).toInt = 63 from rfl)
      exact t_readMarks_76 (aa := aa)   (x1 := x1) (x2 := x2) (x3 := x3) hI hA r_x1 r_x2 r_x3 (by omega) q1 q2
    ·
      replace c301 := ti_eqN c301 rfl (show (63 : Int32).toInt = 63 from rfl)
      exact t_readMarks_132 (aa := aa)   (x1 := x1) (x2 := x2) (x4 := t0) hI hA r_x1 r_x2 (by omega) q0 q1 q2
theorem t_readMarks_36 {aa : Int} {I : Nat → Int32} {A : Nat → Nat → Int32} {x1 : Int32} {x2 : Int32} {t0 : Int32} (hI : TJ I) (hA : TK A) (r_x1 : (0 : Int) ≤ x1.toInt ∧ x1.toInt ≤ (1 : Int)) (r_x2 : (0 : Int) ≤ x2.toInt ∧ x2.toInt ≤ (300 : Int)) (r_t0 : (0 : Int) ≤ t0.toInt ∧ t0.toInt ≤ (1 : Int)) (q0 : (I 37).toInt < (I 1).toInt) (q1 : aa ≤ (I 37).toInt) (q2 : m3 A x1.toInt x2.toInt) : Ok (f_readMarks_36 x1 x2 t0 I A) (fun o => TJ o.2.1 ∧ TK o.2.2 ∧ ((0 : Int) ≤ o.1.toInt ∧ o.1.toInt ≤ (92100 : Int)) ∧ ((o.2.1 37).toInt ≤ (o.2.1 1).toInt ∧ aa ≤ (o.2.1 37).toInt)) := by
  unfold f_readMarks_36
  have b_I_1 := tI_1 hI
  have b_I_37 := tI_37 hI
  refine ok_bnd (fun v1 e302 => ?_)
  have t_v1 : v1.toInt = (I 37).toInt + 1 := ti_add e302 rfl (show (1 : Int32).toInt = 1 from rfl) (by omega) (by omega)
  refine ok_bnd (fun I2 e303 => ?_)
  have hI_I2 : TJ I2 := e303.symm ▸ tj_u hI (k := 37) (show (0 : Int) ≤ v1.toInt from (by omega)) (show v1.toInt ≤ (2100 : Int) from (by omega))
  have : (I2 1).toInt = (I 1).toInt := by rw [e303]; rfl
  have : (I2 37).toInt = v1.toInt := by rw [e303]; exact rfl
  refine ok_if (fun c304 => ?_) (fun c304 => ?_)
  ·
    replace c304 := ti_eqP c304 rfl (show (0 : Int32).toInt = 0 from rfl)
    have b_I2_1 := tI_1 hI_I2
    have b_I2_37 := tI_37 hI_I2
    exact t_readMarks_56 (aa := aa)   (x1 := x1) (x2 := x2) (x3 := t0) (t0 := (2 : Int32)) hI_I2 hA r_x1 r_x2 r_t0 (by decide) (by have z0 : (2 : Int32).toInt = 2 := rfl; omega) (by have z0 : (2 : Int32).toInt = 2 := rfl; omega) q2
  ·
    replace c304 := ti_eqN c304 rfl (show (0 : Int32).toInt = 0 from rfl)
    have b_I2_1 := tI_1 hI_I2
    have b_I2_37 := tI_37 hI_I2
    exact t_readMarks_56 (aa := aa)   (x1 := x1) (x2 := x2) (x3 := t0) (t0 := (1 : Int32)) hI_I2 hA r_x1 r_x2 r_t0 (by decide) (by have z0 : (1 : Int32).toInt = 1 := rfl; omega) (by have z0 : (1 : Int32).toInt = 1 := rfl; omega) q2
theorem t_readMarks_22 {aa : Int} {I : Nat → Int32} {A : Nat → Nat → Int32} {x1 : Int32} {x2 : Int32} (hI : TJ I) (hA : TK A) (r_x1 : (0 : Int) ≤ x1.toInt ∧ x1.toInt ≤ (1 : Int)) (r_x2 : (0 : Int) ≤ x2.toInt ∧ x2.toInt ≤ (300 : Int)) (q0 : (I 37).toInt < (I 1).toInt) (q1 : aa ≤ (I 37).toInt) (q2 : m3 A x1.toInt x2.toInt) : Ok (f_readMarks_22 x1 x2 I A) (fun o => TJ o.2.1 ∧ TK o.2.2 ∧ ((0 : Int) ≤ o.1.toInt ∧ o.1.toInt ≤ (92100 : Int)) ∧ ((o.2.1 37).toInt ≤ (o.2.1 1).toInt ∧ aa ≤ (o.2.1 37).toInt)) := by
  unfold f_readMarks_22
  have b_I_1 := tI_1 hI
  have b_I_37 := tI_37 hI
  obtain ⟨r1, h_r1, p_r1⟩ := ro (t_look   hI hA )
  refine ok_clR h_r1 ?_
  dsimp only at p_r1
  refine ok_if (fun c305 => ?_) (fun c305 => ?_)
  ·
    replace c305 := ti_eqP c305 rfl (show (33 : Int32).toInt = 33 from rfl)
    exact t_readMarks_36 (aa := aa)   (x1 := x1) (x2 := x2) (t0 := (1 : Int32)) hI hA r_x1 r_x2 (by decide) q0 q1 q2
  ·
    replace c305 := ti_eqN c305 rfl (show (33 : Int32).toInt = 33 from rfl)
    exact t_readMarks_36 (aa := aa)   (x1 := x1) (x2 := x2) (t0 := (0 : Int32)) hI hA r_x1 r_x2 (by decide) q0 q1 q2
theorem t_readMarks_0 {aa : Int} {I : Nat → Int32} {A : Nat → Nat → Int32} {x1 : Int32} {x2 : Int32} (hI : TJ I) (hA : TK A) (r_x1 : (0 : Int) ≤ x1.toInt ∧ x1.toInt ≤ (1 : Int)) (r_x2 : (0 : Int) ≤ x2.toInt ∧ x2.toInt ≤ (300 : Int)) (q0 : (I 37).toInt ≤ (I 1).toInt) (q1 : aa ≤ (I 37).toInt) (q2 : m3 A x1.toInt x2.toInt) : Ok (f_readMarks_0 x1 x2 I A) (fun o => TJ o.2.1 ∧ TK o.2.2 ∧ ((0 : Int) ≤ o.1.toInt ∧ o.1.toInt ≤ (92100 : Int)) ∧ ((o.2.1 37).toInt ≤ (o.2.1 1).toInt ∧ aa ≤ (o.2.1 37).toInt)) := by
  unfold f_readMarks_0
  have b_I_1 := tI_1 hI
  have b_I_37 := tI_37 hI
  obtain ⟨⟨r1, Ic1, Ac1⟩, h_r1, hI_Ic1, hA_Ac1, p_r1_0⟩ := t_blanks   hI hA (show (I 37).toInt ≤ (I 37).toInt ∧ (I 37).toInt ≤ (I 1).toInt ∧ (I 1).toInt ≤ (I 1).toInt from ⟨Int.le_refl _, by omega, Int.le_refl _⟩)
  replace hI_Ic1 : TJ Ic1 := hI_Ic1
  replace hA_Ac1 : TK Ac1 := hA_Ac1
  dsimp only at p_r1_0
  refine ok_clR h_r1 ?_
  have f_r1 := fw_blanks h_r1
  have : (Ic1 1).toInt = (I 1).toInt := congrArg Int32.toInt (f_r1.1 1 (by decide))
  have k306 : m3 Ac1 x1.toInt x2.toInt := m3_fr (f_r1.2 12 (by decide)) q2
  obtain ⟨r2, h_r2, p_r2⟩ := ro (t_look   hI_Ic1 hA_Ac1 )
  refine ok_clR h_r2 ?_
  dsimp only at p_r2
  refine ok_if (fun c307 => ?_) (fun c307 => ?_)
  ·
    replace c307 := ti_eqP c307 rfl (show (33 : Int32).toInt = 33 from rfl)
    have b_Ic1_1 := tI_1 hI_Ic1
    have b_Ic1_37 := tI_37 hI_Ic1
    exact t_readMarks_22 (aa := aa)   (x1 := x1) (x2 := x2) hI_Ic1 hA_Ac1 r_x1 r_x2 (by omega) (by omega) k306
  ·
    replace c307 := ti_eqN c307 rfl (show (33 : Int32).toInt = 33 from rfl)
    obtain ⟨r3, h_r3, p_r3⟩ := ro (t_look   hI_Ic1 hA_Ac1 )
    refine ok_clR h_r3 ?_
    dsimp only at p_r3
    refine ok_if (fun c308 => ?_) (fun c308 => ?_)
    ·
      replace c308 := ti_eqP c308 rfl (show (63 : Int32).toInt = 63 from rfl)
      have b_Ic1_1 := tI_1 hI_Ic1
      have b_Ic1_37 := tI_37 hI_Ic1
      exact t_readMarks_22 (aa := aa)   (x1 := x1) (x2 := x2) hI_Ic1 hA_Ac1 r_x1 r_x2 (by omega) (by omega) k306
    ·
      replace c308 := ti_eqN c308 rfl (show (63 : Int32).toInt = 63 from rfl)
      have b_Ic1_1 := tI_1 hI_Ic1
      have b_Ic1_37 := tI_37 hI_Ic1
      exact t_readMarks_144 (aa := aa)    mFuel x1 x2 Ic1 Ac1 hI_Ic1 hA_Ac1 r_x1 r_x2 (by omega) (by omega) (by show _ < ((200000 : Nat) : Int); omega)
theorem t_readMarks {aa : Int} {I : Nat → Int32} {A : Nat → Nat → Int32} {x1 : Int32} {x2 : Int32} (hI : TJ I) (hA : TK A) (r_x1 : (0 : Int) ≤ x1.toInt ∧ x1.toInt ≤ (1 : Int)) (r_x2 : (0 : Int) ≤ x2.toInt ∧ x2.toInt ≤ (300 : Int)) (q0 : (I 37).toInt ≤ (I 1).toInt) (q1 : aa ≤ (I 37).toInt) (q2 : m3 A x1.toInt x2.toInt) : Ok (f_readMarks x1 x2 I A) (fun o => TJ o.2.1 ∧ TK o.2.2 ∧ ((0 : Int) ≤ o.1.toInt ∧ o.1.toInt ≤ (92100 : Int)) ∧ ((o.2.1 37).toInt ≤ (o.2.1 1).toInt ∧ aa ≤ (o.2.1 37).toInt)) := t_readMarks_0 (aa := aa) hI hA r_x1 r_x2 q0 q1 q2
theorem t_readMoveNumber_65s {aa : Int} {I : Nat → Int32} {A : Nat → Nat → Int32} {self65 : Int32 → Int32 → (Nat → Int32) → (Nat → Nat → Int32) → Option (Int32 × MS)} {N65 : Nat} (hself65 : ∀ (x1 : Int32) (x2 : Int32) (I : Nat → Int32) (A : Nat → Nat → Int32), TJ I → TK A → ((0 : Int) ≤ x1.toInt ∧ x1.toInt ≤ (2000 : Int)) → ((0 : Int) ≤ x2.toInt ∧ x2.toInt ≤ (9999 : Int)) → ((I 37).toInt ≤ (I 1).toInt) → (aa ≤ (I 37).toInt) → ((I 1).toInt - (I 37).toInt) < (N65 : Int) → Ok (self65 x1 x2 I A) (fun o => TJ o.2.1 ∧ TK o.2.2 ∧ ((0 : Int) ≤ o.1.toInt ∧ o.1.toInt ≤ (92100 : Int)) ∧ ((o.2.1 37).toInt ≤ (o.2.1 1).toInt ∧ aa ≤ (o.2.1 37).toInt))) {x1 : Int32} {x2 : Int32} (hI : TJ I) (hA : TK A) (r_x1 : (0 : Int) ≤ x1.toInt ∧ x1.toInt ≤ (2000 : Int)) (r_x2 : (0 : Int) ≤ x2.toInt ∧ x2.toInt ≤ (9999 : Int)) (q0 : (I 37).toInt ≤ (I 1).toInt) (q1 : aa ≤ (I 37).toInt) (m65 : ((I 1).toInt - (I 37).toInt) ≤ (N65 : Int)) : Ok (f_readMoveNumber_65s self65 x1 x2 I A) (fun o => TJ o.2.1 ∧ TK o.2.2 ∧ ((0 : Int) ≤ o.1.toInt ∧ o.1.toInt ≤ (92100 : Int)) ∧ ((o.2.1 37).toInt ≤ (o.2.1 1).toInt ∧ aa ≤ (o.2.1 37).toInt)) := by
  unfold f_readMoveNumber_65s
  have b_I_1 := tI_1 hI
  have b_I_37 := tI_37 hI
  obtain ⟨r1, h_r1, p_r1⟩ := ro (t_look   hI hA )
  refine ok_clR h_r1 ?_
  dsimp only at p_r1
  refine ok_if (fun c309 => ?_) (fun c309 => ?_)
  ·
    replace c309 := ti_eqP c309 rfl (show (46 : Int32).toInt = 46 from rfl)
    refine ok_bnd (fun v4 e310 => ?_)
    have t_v4 : v4.toInt = (I 37).toInt + 1 := ti_add e310 rfl (show (1 : Int32).toInt = 1 from rfl) (by omega) (by omega)
    refine ok_bnd (fun I5 e311 => ?_)
    have hI_I5 : TJ I5 := e311.symm ▸ tj_u hI (k := 37) (show (0 : Int) ≤ v4.toInt from (by omega)) (show v4.toInt ≤ (2100 : Int) from (by omega))
    have : (I5 1).toInt = (I 1).toInt := by rw [e311]; rfl
    have : (I5 37).toInt = v4.toInt := by rw [e311]; exact rfl
    have b_I5_1 := tI_1 hI_I5
    have b_I5_37 := tI_37 hI_I5
    exact hself65 x1 x2 I5 A hI_I5 hA r_x1 r_x2 (by omega) (by omega) (by omega)
  ·
    replace c309 := ti_eqN c309 rfl (show (46 : Int32).toInt = 46 from rfl)
    have b_I_29 := tI_29 hI
    refine ok_if (fun c312 => ?_) (fun c312 => ?_)
    ·
      replace c312 := ti_eqP c312 rfl rfl
      obtain ⟨⟨r2, Ic2, Ac2⟩, h_r2, hI_Ic2, hA_Ac2, p_r2_0⟩ := t_blanks   hI hA (show (I 37).toInt ≤ (I 37).toInt ∧ (I 37).toInt ≤ (I 1).toInt ∧ (I 1).toInt ≤ (I 1).toInt from ⟨Int.le_refl _, by omega, Int.le_refl _⟩)
      replace hI_Ic2 : TJ Ic2 := hI_Ic2
      replace hA_Ac2 : TK Ac2 := hA_Ac2
      dsimp only at p_r2_0
      refine ok_clR h_r2 ?_
      have f_r2 := fw_blanks h_r2
      have : (Ic2 1).toInt = (I 1).toInt := congrArg Int32.toInt (f_r2.1 1 (by decide))
      exact ok_ret ⟨hI_Ic2, hA_Ac2, (show (0 : Int) ≤ (0 : Int32).toInt ∧ (0 : Int32).toInt ≤ (92100 : Int) from (by decide)), (by show (Ic2 37).toInt ≤ (Ic2 1).toInt ∧ aa ≤ (Ic2 37).toInt; have z : (0 : Int32).toInt = 0 := rfl; omega)⟩
    ·
      replace c312 := ti_eqN c312 rfl rfl
      obtain ⟨r3, h_r3, p_r3⟩ := ro (t_fault (x0 := (7 : Int32)) (x1 := x1)  hI hA (by decide) (by omega))
      refine ok_clR h_r3 ?_
      dsimp only at p_r3
      exact ok_ret ⟨hI, hA, (show (0 : Int) ≤ r3.toInt ∧ r3.toInt ≤ (92100 : Int) from (by omega)), (by show (I 37).toInt ≤ (I 1).toInt ∧ aa ≤ (I 37).toInt; omega)⟩
theorem t_readMoveNumber_65 {aa : Int}  : ∀ (n : Nat) (x1 : Int32) (x2 : Int32) (I : Nat → Int32) (A : Nat → Nat → Int32), TJ I → TK A → ((0 : Int) ≤ x1.toInt ∧ x1.toInt ≤ (2000 : Int)) → ((0 : Int) ≤ x2.toInt ∧ x2.toInt ≤ (9999 : Int)) → ((I 37).toInt ≤ (I 1).toInt) → (aa ≤ (I 37).toInt) → ((I 1).toInt - (I 37).toInt) < (n : Int) → Ok (f_readMoveNumber_65  n x1 x2 I A) (fun o => TJ o.2.1 ∧ TK o.2.2 ∧ ((0 : Int) ≤ o.1.toInt ∧ o.1.toInt ≤ (92100 : Int)) ∧ ((o.2.1 37).toInt ≤ (o.2.1 1).toInt ∧ aa ≤ (o.2.1 37).toInt)) := by
  intro n
  induction n with
  | zero => intro x1 x2 I A hI hA g0 g1 g2 g3  hm; exfalso; omega
  | succ n ih =>
    intro x1 x2 I A hI hA g0 g1 g2 g3  hm
    exact t_readMoveNumber_65s (aa := aa)  (N65 := n)  ih hI hA g0 g1 g2 g3  (by omega)
theorem t_readMoveNumber_21s {aa : Int} {I : Nat → Int32} {A : Nat → Nat → Int32} {self21 : Int32 → Int32 → Int32 → (Nat → Int32) → (Nat → Nat → Int32) → Option (Int32 × MS)} {N21 : Nat} (hself21 : ∀ (x1 : Int32) (x2 : Int32) (x3 : Int32) (I : Nat → Int32) (A : Nat → Nat → Int32), TJ I → TK A → ((0 : Int) ≤ x1.toInt ∧ x1.toInt ≤ (2000 : Int)) → ((0 : Int) ≤ x2.toInt ∧ x2.toInt ≤ (9999 : Int)) → ((0 : Int) ≤ x3.toInt ∧ x3.toInt ≤ (4 : Int)) → ((I 37).toInt ≤ (I 1).toInt) → (aa ≤ (I 37).toInt) → ((x3.toInt = 0 → x2.toInt = 0) ∧ (x3.toInt ≤ 1 → x2.toInt ≤ 9) ∧ (x3.toInt ≤ 2 → x2.toInt ≤ 99) ∧ (x3.toInt ≤ 3 → x2.toInt ≤ 999)) → (5 - x3.toInt) < (N21 : Int) → Ok (self21 x1 x2 x3 I A) (fun o => TJ o.2.1 ∧ TK o.2.2 ∧ ((0 : Int) ≤ o.1.toInt ∧ o.1.toInt ≤ (92100 : Int)) ∧ ((o.2.1 37).toInt ≤ (o.2.1 1).toInt ∧ aa ≤ (o.2.1 37).toInt))) {x1 : Int32} {x2 : Int32} {x3 : Int32} (hI : TJ I) (hA : TK A) (r_x1 : (0 : Int) ≤ x1.toInt ∧ x1.toInt ≤ (2000 : Int)) (r_x2 : (0 : Int) ≤ x2.toInt ∧ x2.toInt ≤ (9999 : Int)) (r_x3 : (0 : Int) ≤ x3.toInt ∧ x3.toInt ≤ (4 : Int)) (q0 : (I 37).toInt ≤ (I 1).toInt) (q1 : aa ≤ (I 37).toInt) (q2 : (x3.toInt = 0 → x2.toInt = 0) ∧ (x3.toInt ≤ 1 → x2.toInt ≤ 9) ∧ (x3.toInt ≤ 2 → x2.toInt ≤ 99) ∧ (x3.toInt ≤ 3 → x2.toInt ≤ 999)) (m21 : (5 - x3.toInt) ≤ (N21 : Int)) : Ok (f_readMoveNumber_21s self21 x1 x2 x3 I A) (fun o => TJ o.2.1 ∧ TK o.2.2 ∧ ((0 : Int) ≤ o.1.toInt ∧ o.1.toInt ≤ (92100 : Int)) ∧ ((o.2.1 37).toInt ≤ (o.2.1 1).toInt ∧ aa ≤ (o.2.1 37).toInt)) := by
  unfold f_readMoveNumber_21s
  have b_I_1 := tI_1 hI
  have b_I_37 := tI_37 hI
  obtain ⟨r1, h_r1, p_r1⟩ := ro (t_look   hI hA )
  refine ok_clR h_r1 ?_
  dsimp only at p_r1
  obtain ⟨r2, h_r2, p_r2⟩ := ro (t_isDigit (x0 := r1)  hI hA )
  refine ok_clR h_r2 ?_
  dsimp only at p_r2
  refine ok_if (fun c313 => ?_) (fun c313 => ?_)
  ·
    replace c313 := ti_eqP c313 rfl (show (0 : Int32).toInt = 0 from rfl)
    exact t_readMoveNumber_65 (aa := aa)    mFuel x1 x2 I A hI hA r_x1 r_x2 q0 q1 (by show _ < ((200000 : Nat) : Int); omega)
  ·
    replace c313 := ti_eqN c313 rfl (show (0 : Int32).toInt = 0 from rfl)
    refine ok_if (fun c314 => ?_) (fun c314 => ?_)
    ·
      replace c314 := ti_leP c314 (show (4 : Int32).toInt = 4 from rfl) rfl
      exact t_readMoveNumber_65 (aa := aa)    mFuel x1 x2 I A hI hA r_x1 r_x2 q0 q1 (by show _ < ((200000 : Nat) : Int); omega)
    ·
      replace c314 := ti_leN c314 (show (4 : Int32).toInt = 4 from rfl) rfl
      refine ok_bnd (fun v3 e315 => ?_)
      have t_v3 : v3.toInt = 10 * x2.toInt := ti_mul e315 (show (10 : Int32).toInt = 10 from rfl) rfl (by omega) (by omega)
      obtain ⟨r4, h_r4, p_r4⟩ := ro (t_look   hI hA )
      refine ok_clR h_r4 ?_
      dsimp only at p_r4
      have e4 : r4.toInt = r1.toInt := by rw [ro_eq h_r1 h_r4]
      refine ok_bnd (fun v5 e316 => ?_)
      have t_v5 : v5.toInt = v3.toInt + r4.toInt := ti_add e316 rfl rfl (by omega) (by omega)
      refine ok_bnd (fun v6 e317 => ?_)
      have t_v6 : v6.toInt = v5.toInt - 48 := ti_sub e317 rfl (show (48 : Int32).toInt = 48 from rfl) (by omega) (by omega)
      refine ok_bnd (fun v7 e318 => ?_)
      have t_v7 : v7.toInt = x3.toInt + 1 := ti_add e318 rfl (show (1 : Int32).toInt = 1 from rfl) (by omega) (by omega)
      refine ok_bnd (fun v8 e319 => ?_)
      have t_v8 : v8.toInt = (I 37).toInt + 1 := ti_add e319 rfl (show (1 : Int32).toInt = 1 from rfl) (by omega) (by omega)
      refine ok_bnd (fun I9 e320 => ?_)
      have hI_I9 : TJ I9 := e320.symm ▸ tj_u hI (k := 37) (show (0 : Int) ≤ v8.toInt from (by omega)) (show v8.toInt ≤ (2100 : Int) from (by omega))
      have : (I9 1).toInt = (I 1).toInt := by rw [e320]; rfl
      have : (I9 37).toInt = v8.toInt := by rw [e320]; exact rfl
      have b_I9_1 := tI_1 hI_I9
      have b_I9_37 := tI_37 hI_I9
      exact hself21 x1 v6 v7 I9 A hI_I9 hA r_x1 (by omega) (by omega) (by omega) (by omega) (by omega) (by omega)
theorem t_readMoveNumber_21 {aa : Int}  : ∀ (n : Nat) (x1 : Int32) (x2 : Int32) (x3 : Int32) (I : Nat → Int32) (A : Nat → Nat → Int32), TJ I → TK A → ((0 : Int) ≤ x1.toInt ∧ x1.toInt ≤ (2000 : Int)) → ((0 : Int) ≤ x2.toInt ∧ x2.toInt ≤ (9999 : Int)) → ((0 : Int) ≤ x3.toInt ∧ x3.toInt ≤ (4 : Int)) → ((I 37).toInt ≤ (I 1).toInt) → (aa ≤ (I 37).toInt) → ((x3.toInt = 0 → x2.toInt = 0) ∧ (x3.toInt ≤ 1 → x2.toInt ≤ 9) ∧ (x3.toInt ≤ 2 → x2.toInt ≤ 99) ∧ (x3.toInt ≤ 3 → x2.toInt ≤ 999)) → (5 - x3.toInt) < (n : Int) → Ok (f_readMoveNumber_21  n x1 x2 x3 I A) (fun o => TJ o.2.1 ∧ TK o.2.2 ∧ ((0 : Int) ≤ o.1.toInt ∧ o.1.toInt ≤ (92100 : Int)) ∧ ((o.2.1 37).toInt ≤ (o.2.1 1).toInt ∧ aa ≤ (o.2.1 37).toInt)) := by
  intro n
  induction n with
  | zero => intro x1 x2 x3 I A hI hA g0 g1 g2 g3 g4 g5  hm; exfalso; omega
  | succ n ih =>
    intro x1 x2 x3 I A hI hA g0 g1 g2 g3 g4 g5  hm
    exact t_readMoveNumber_21s (aa := aa)  (N21 := n)  ih hI hA g0 g1 g2 g3 g4 g5  (by omega)
theorem t_readMoveNumber_0 {aa : Int} {I : Nat → Int32} {A : Nat → Nat → Int32} (hI : TJ I) (hA : TK A) (q0 : (I 37).toInt ≤ (I 1).toInt) (q1 : aa ≤ (I 37).toInt) : Ok (f_readMoveNumber_0 I A) (fun o => TJ o.2.1 ∧ TK o.2.2 ∧ ((0 : Int) ≤ o.1.toInt ∧ o.1.toInt ≤ (92100 : Int)) ∧ ((o.2.1 37).toInt ≤ (o.2.1 1).toInt ∧ aa ≤ (o.2.1 37).toInt)) := by
  unfold f_readMoveNumber_0
  have b_I_1 := tI_1 hI
  have b_I_37 := tI_37 hI
  obtain ⟨r1, h_r1, p_r1⟩ := ro (t_look   hI hA )
  refine ok_clR h_r1 ?_
  dsimp only at p_r1
  obtain ⟨r2, h_r2, p_r2⟩ := ro (t_isDigit (x0 := r1)  hI hA )
  refine ok_clR h_r2 ?_
  dsimp only at p_r2
  refine ok_if (fun c321 => ?_) (fun c321 => ?_)
  ·
    replace c321 := ti_eqP c321 rfl (show (0 : Int32).toInt = 0 from rfl)
    exact ok_ret ⟨hI, hA, (show (0 : Int) ≤ (0 : Int32).toInt ∧ (0 : Int32).toInt ≤ (92100 : Int) from (by decide)), (by show (I 37).toInt ≤ (I 1).toInt ∧ aa ≤ (I 37).toInt; have z : (0 : Int32).toInt = 0 := rfl; omega)⟩
  ·
    replace c321 := ti_eqN c321 rfl (show (0 : Int32).toInt = 0 from rfl)
    exact t_readMoveNumber_21 (aa := aa)    mFuel (I 37) (0 : Int32) (0 : Int32) I A hI hA (by omega) (by decide) (by decide) q0 q1 (by have z0 : (0 : Int32).toInt = 0 := rfl; have z1 : (0 : Int32).toInt = 0 := rfl; omega) (by show _ < ((200000 : Nat) : Int); have z0 : (0 : Int32).toInt = 0 := rfl; have z1 : (0 : Int32).toInt = 0 := rfl; omega)
theorem t_readMoveNumber {aa : Int} {I : Nat → Int32} {A : Nat → Nat → Int32}  (hI : TJ I) (hA : TK A) (q0 : (I 37).toInt ≤ (I 1).toInt) (q1 : aa ≤ (I 37).toInt) : Ok (f_readMoveNumber  I A) (fun o => TJ o.2.1 ∧ TK o.2.2 ∧ ((0 : Int) ≤ o.1.toInt ∧ o.1.toInt ≤ (92100 : Int)) ∧ ((o.2.1 37).toInt ≤ (o.2.1 1).toInt ∧ aa ≤ (o.2.1 37).toInt)) := t_readMoveNumber_0 (aa := aa) hI hA q0 q1
theorem t_resultSize_0  {I : Nat → Int32} {A : Nat → Nat → Int32} {x0 : Int32} (hI : TJ I) (hA : TK A) : Ok (f_resultSize_0 x0 I A) (fun o => o.2 = (I, A) ∧ ((1 : Int) ≤ o.1.toInt ∧ o.1.toInt ≤ (7 : Int))) := by
  unfold f_resultSize_0
  refine ok_if (fun c322 => ?_) (fun c322 => ?_)
  ·
    replace c322 := ti_eqP c322 rfl (show (0 : Int32).toInt = 0 from rfl)
    unfold f_resultSize_19
    exact ok_ret ⟨rfl, (show (1 : Int) ≤ (1 : Int32).toInt ∧ (1 : Int32).toInt ≤ (7 : Int) from (by decide))⟩
  ·
    replace c322 := ti_eqN c322 rfl (show (0 : Int32).toInt = 0 from rfl)
    refine ok_if (fun c323 => ?_) (fun c323 => ?_)
    ·
      replace c323 := ti_eqP c323 rfl (show (3 : Int32).toInt = 3 from rfl)
      unfold f_resultSize_19
      exact ok_ret ⟨rfl, (show (1 : Int) ≤ (7 : Int32).toInt ∧ (7 : Int32).toInt ≤ (7 : Int) from (by decide))⟩
    ·
      replace c323 := ti_eqN c323 rfl (show (3 : Int32).toInt = 3 from rfl)
      unfold f_resultSize_19
      exact ok_ret ⟨rfl, (show (1 : Int) ≤ (3 : Int32).toInt ∧ (3 : Int32).toInt ≤ (7 : Int) from (by decide))⟩
theorem t_resultSize  {I : Nat → Int32} {A : Nat → Nat → Int32} {x0 : Int32} (hI : TJ I) (hA : TK A) : Ok (f_resultSize x0 I A) (fun o => o.2 = (I, A) ∧ ((1 : Int) ≤ o.1.toInt ∧ o.1.toInt ≤ (7 : Int))) := t_resultSize_0  hI hA 
theorem t_resultSign_0  {I : Nat → Int32} {A : Nat → Nat → Int32} {x0 : Int32} {x1 : Int32} (hI : TJ I) (hA : TK A) : Ok (f_resultSign_0 x0 x1 I A) (fun o => o.2 = (I, A) ∧ ((0 : Int) ≤ o.1.toInt ∧ o.1.toInt ≤ (65535 : Int))) := by
  unfold f_resultSign_0
  refine ok_if (fun c324 => ?_) (fun c324 => ?_)
  ·
    replace c324 := ti_eqP c324 rfl (show (0 : Int32).toInt = 0 from rfl)
    refine ok_chk (by decide) ?_
    exact ok_ret ⟨rfl, (show (0 : Int) ≤ (42 : Int32).toInt ∧ (42 : Int32).toInt ≤ (65535 : Int) from (by decide))⟩
  ·
    replace c324 := ti_eqN c324 rfl (show (0 : Int32).toInt = 0 from rfl)
    refine ok_if (fun c325 => ?_) (fun c325 => ?_)
    ·
      replace c325 := ti_eqP c325 rfl (show (1 : Int32).toInt = 1 from rfl)
      refine ok_if (fun c326 => ?_) (fun c326 => ?_)
      ·
        replace c326 := ti_eqP c326 rfl (show (0 : Int32).toInt = 0 from rfl)
        unfold f_resultSign_52
        refine ok_chk (by decide) ?_
        exact ok_ret ⟨rfl, (show (0 : Int) ≤ (49 : Int32).toInt ∧ (49 : Int32).toInt ≤ (65535 : Int) from (by decide))⟩
      ·
        replace c326 := ti_eqN c326 rfl (show (0 : Int32).toInt = 0 from rfl)
        refine ok_if (fun c327 => ?_) (fun c327 => ?_)
        ·
          replace c327 := ti_eqP c327 rfl (show (1 : Int32).toInt = 1 from rfl)
          unfold f_resultSign_52
          refine ok_chk (by decide) ?_
          exact ok_ret ⟨rfl, (show (0 : Int) ≤ (45 : Int32).toInt ∧ (45 : Int32).toInt ≤ (65535 : Int) from (by decide))⟩
        ·
          replace c327 := ti_eqN c327 rfl (show (1 : Int32).toInt = 1 from rfl)
          unfold f_resultSign_52
          refine ok_chk (by decide) ?_
          exact ok_ret ⟨rfl, (show (0 : Int) ≤ (48 : Int32).toInt ∧ (48 : Int32).toInt ≤ (65535 : Int) from (by decide))⟩
    ·
      replace c325 := ti_eqN c325 rfl (show (1 : Int32).toInt = 1 from rfl)
      refine ok_if (fun c328 => ?_) (fun c328 => ?_)
      ·
        replace c328 := ti_eqP c328 rfl (show (2 : Int32).toInt = 2 from rfl)
        refine ok_if (fun c329 => ?_) (fun c329 => ?_)
        ·
          replace c329 := ti_eqP c329 rfl (show (0 : Int32).toInt = 0 from rfl)
          unfold f_resultSign_74
          refine ok_chk (by decide) ?_
          exact ok_ret ⟨rfl, (show (0 : Int) ≤ (48 : Int32).toInt ∧ (48 : Int32).toInt ≤ (65535 : Int) from (by decide))⟩
        ·
          replace c329 := ti_eqN c329 rfl (show (0 : Int32).toInt = 0 from rfl)
          refine ok_if (fun c330 => ?_) (fun c330 => ?_)
          ·
            replace c330 := ti_eqP c330 rfl (show (1 : Int32).toInt = 1 from rfl)
            unfold f_resultSign_74
            refine ok_chk (by decide) ?_
            exact ok_ret ⟨rfl, (show (0 : Int) ≤ (45 : Int32).toInt ∧ (45 : Int32).toInt ≤ (65535 : Int) from (by decide))⟩
          ·
            replace c330 := ti_eqN c330 rfl (show (1 : Int32).toInt = 1 from rfl)
            unfold f_resultSign_74
            refine ok_chk (by decide) ?_
            exact ok_ret ⟨rfl, (show (0 : Int) ≤ (49 : Int32).toInt ∧ (49 : Int32).toInt ≤ (65535 : Int) from (by decide))⟩
      ·
        replace c328 := ti_eqN c328 rfl (show (2 : Int32).toInt = 2 from rfl)
        refine ok_if (fun c331 => ?_) (fun c331 => ?_)
        ·
          replace c331 := ti_eqP c331 rfl (show (1 : Int32).toInt = 1 from rfl)
          unfold f_resultSign_85
          unfold f_resultSign_116
          refine ok_chk (by decide) ?_
          exact ok_ret ⟨rfl, (show (0 : Int) ≤ (47 : Int32).toInt ∧ (47 : Int32).toInt ≤ (65535 : Int) from (by decide))⟩
        ·
          replace c331 := ti_eqN c331 rfl (show (1 : Int32).toInt = 1 from rfl)
          refine ok_if (fun c332 => ?_) (fun c332 => ?_)
          ·
            replace c332 := ti_eqP c332 rfl (show (5 : Int32).toInt = 5 from rfl)
            unfold f_resultSign_85
            unfold f_resultSign_116
            refine ok_chk (by decide) ?_
            exact ok_ret ⟨rfl, (show (0 : Int) ≤ (47 : Int32).toInt ∧ (47 : Int32).toInt ≤ (65535 : Int) from (by decide))⟩
          ·
            replace c332 := ti_eqN c332 rfl (show (5 : Int32).toInt = 5 from rfl)
            refine ok_if (fun c333 => ?_) (fun c333 => ?_)
            ·
              replace c333 := ti_eqP c333 rfl (show (3 : Int32).toInt = 3 from rfl)
              unfold f_resultSign_116
              refine ok_chk (by decide) ?_
              exact ok_ret ⟨rfl, (show (0 : Int) ≤ (45 : Int32).toInt ∧ (45 : Int32).toInt ≤ (65535 : Int) from (by decide))⟩
            ·
              replace c333 := ti_eqN c333 rfl (show (3 : Int32).toInt = 3 from rfl)
              refine ok_if (fun c334 => ?_) (fun c334 => ?_)
              ·
                replace c334 := ti_eqP c334 rfl (show (0 : Int32).toInt = 0 from rfl)
                unfold f_resultSign_109
                unfold f_resultSign_116
                refine ok_chk (by decide) ?_
                exact ok_ret ⟨rfl, (show (0 : Int) ≤ (49 : Int32).toInt ∧ (49 : Int32).toInt ≤ (65535 : Int) from (by decide))⟩
              ·
                replace c334 := ti_eqN c334 rfl (show (0 : Int32).toInt = 0 from rfl)
                refine ok_if (fun c335 => ?_) (fun c335 => ?_)
                ·
                  replace c335 := ti_eqP c335 rfl (show (4 : Int32).toInt = 4 from rfl)
                  unfold f_resultSign_109
                  unfold f_resultSign_116
                  refine ok_chk (by decide) ?_
                  exact ok_ret ⟨rfl, (show (0 : Int) ≤ (49 : Int32).toInt ∧ (49 : Int32).toInt ≤ (65535 : Int) from (by decide))⟩
                ·
                  replace c335 := ti_eqN c335 rfl (show (4 : Int32).toInt = 4 from rfl)
                  unfold f_resultSign_116
                  refine ok_chk (by decide) ?_
                  exact ok_ret ⟨rfl, (show (0 : Int) ≤ (50 : Int32).toInt ∧ (50 : Int32).toInt ≤ (65535 : Int) from (by decide))⟩
theorem t_resultSign  {I : Nat → Int32} {A : Nat → Nat → Int32} {x0 : Int32} {x1 : Int32} (hI : TJ I) (hA : TK A) : Ok (f_resultSign x0 x1 I A) (fun o => o.2 = (I, A) ∧ ((0 : Int) ≤ o.1.toInt ∧ o.1.toInt ≤ (65535 : Int))) := t_resultSign_0  hI hA 
theorem t_isResultValue_74  {I : Nat → Int32} {A : Nat → Nat → Int32} {self28 : Int32 → Int32 → Int32 → Int32 → Int32 → (Nat → Int32) → (Nat → Nat → Int32) → Option (Int32 × MS)} {N28 : Nat} (hself28 : ∀ (x1 : Int32) (x2 : Int32) (x3 : Int32) (x4 : Int32) (x5 : Int32),  ((0 : Int) ≤ x1.toInt ∧ x1.toInt ≤ (1 : Int)) → ((0 : Int) ≤ x2.toInt ∧ x2.toInt ≤ (7 : Int)) → ((0 : Int) ≤ x4.toInt ∧ x4.toInt ≤ (1 : Int)) → ((0 : Int) ≤ x5.toInt ∧ x5.toInt ≤ (7 : Int)) → (8 - x5.toInt) < (N28 : Int) → Ok (self28 x1 x2 x3 x4 x5 I A) (fun o => o.2 = (I, A) ∧ ((0 : Int) ≤ o.1.toInt ∧ o.1.toInt ≤ (1 : Int)))) {x1 : Int32} {x2 : Int32} {x3 : Int32} {x5 : Int32} {t0 : Int32} (hI : TJ I) (hA : TK A) (r_x1 : (0 : Int) ≤ x1.toInt ∧ x1.toInt ≤ (1 : Int)) (r_x2 : (0 : Int) ≤ x2.toInt ∧ x2.toInt ≤ (7 : Int)) (r_x5 : (0 : Int) ≤ x5.toInt ∧ x5.toInt ≤ (6 : Int)) (r_t0 : (0 : Int) ≤ t0.toInt ∧ t0.toInt ≤ (1 : Int)) (m28 : (8 - x5.toInt) ≤ (N28 : Int)) : Ok (f_isResultValue_74 self28 x1 x2 x3 x5 t0 I A) (fun o => o.2 = (I, A) ∧ ((0 : Int) ≤ o.1.toInt ∧ o.1.toInt ≤ (1 : Int))) := by
  unfold f_isResultValue_74
  refine ok_bnd (fun v1 e336 => ?_)
  have t_v1 : v1.toInt = x5.toInt + 1 := ti_add e336 rfl (show (1 : Int32).toInt = 1 from rfl) (by omega) (by omega)
  exact hself28 x1 x2 x3 t0 v1 r_x1 r_x2 r_t0 (by omega) (by omega)
theorem t_isResultValue_28s  {I : Nat → Int32} {A : Nat → Nat → Int32} {self28 : Int32 → Int32 → Int32 → Int32 → Int32 → (Nat → Int32) → (Nat → Nat → Int32) → Option (Int32 × MS)} {N28 : Nat} (hself28 : ∀ (x1 : Int32) (x2 : Int32) (x3 : Int32) (x4 : Int32) (x5 : Int32),  ((0 : Int) ≤ x1.toInt ∧ x1.toInt ≤ (1 : Int)) → ((0 : Int) ≤ x2.toInt ∧ x2.toInt ≤ (7 : Int)) → ((0 : Int) ≤ x4.toInt ∧ x4.toInt ≤ (1 : Int)) → ((0 : Int) ≤ x5.toInt ∧ x5.toInt ≤ (7 : Int)) → (8 - x5.toInt) < (N28 : Int) → Ok (self28 x1 x2 x3 x4 x5 I A) (fun o => o.2 = (I, A) ∧ ((0 : Int) ≤ o.1.toInt ∧ o.1.toInt ≤ (1 : Int)))) {x1 : Int32} {x2 : Int32} {x3 : Int32} {x4 : Int32} {x5 : Int32} (hI : TJ I) (hA : TK A) (r_x1 : (0 : Int) ≤ x1.toInt ∧ x1.toInt ≤ (1 : Int)) (r_x2 : (0 : Int) ≤ x2.toInt ∧ x2.toInt ≤ (7 : Int)) (r_x4 : (0 : Int) ≤ x4.toInt ∧ x4.toInt ≤ (1 : Int)) (r_x5 : (0 : Int) ≤ x5.toInt ∧ x5.toInt ≤ (7 : Int)) (m28 : (8 - x5.toInt) ≤ (N28 : Int)) : Ok (f_isResultValue_28s self28 x1 x2 x3 x4 x5 I A) (fun o => o.2 = (I, A) ∧ ((0 : Int) ≤ o.1.toInt ∧ o.1.toInt ≤ (1 : Int))) := by
  unfold f_isResultValue_28s
  obtain ⟨r1, h_r1, p_r1⟩ := ro (t_resultSize (x0 := x3)  hI hA )
  refine ok_clR h_r1 ?_
  dsimp only at p_r1
  refine ok_if (fun c337 => ?_) (fun c337 => ?_)
  ·
    replace c337 := ti_leP c337 rfl rfl
    unfold f_isResultValue_82
    refine ok_chk (nar_b (by omega) (by omega)) ?_
    exact ok_ret ⟨rfl, (show (0 : Int) ≤ x4.toInt ∧ x4.toInt ≤ (1 : Int) from (by omega))⟩
  ·
    replace c337 := ti_leN c337 rfl rfl
    refine ok_if (fun c338 => ?_) (fun c338 => ?_)
    ·
      replace c338 := ti_eqP c338 rfl (show (0 : Int32).toInt = 0 from rfl)
      unfold f_isResultValue_82
      refine ok_chk (nar_b (by omega) (by omega)) ?_
      exact ok_ret ⟨rfl, (show (0 : Int) ≤ x4.toInt ∧ x4.toInt ≤ (1 : Int) from (by omega))⟩
    ·
      replace c338 := ti_eqN c338 rfl (show (0 : Int32).toInt = 0 from rfl)
      refine ok_bnd (fun v2 e339 => ?_)
      have t_v2 : v2.toInt = 768 * x1.toInt := ti_mul e339 (show (768 : Int32).toInt = 768 from rfl) rfl (by omega) (by omega)
      refine ok_bnd (fun v3 e340 => ?_)
      have t_v3 : v3.toInt = 96 * x2.toInt := ti_mul e340 (show (96 : Int32).toInt = 96 from rfl) rfl (by omega) (by omega)
      refine ok_bnd (fun v4 e341 => ?_)
      have t_v4 : v4.toInt = v2.toInt + v3.toInt := ti_add e341 rfl rfl (by omega) (by omega)
      refine ok_bnd (fun v5 e342 => ?_)
      have t_v5 : v5.toInt = v4.toInt + x5.toInt := ti_add e342 rfl rfl (by omega) (by omega)
      refine ok_chk (ti_in (by omega) (by omega)) ?_
      refine ok_bnd (fun v6 e343 => ?_)
      have b_v6 := tA_22 hA ((v5).toNatClampNeg)
      rw [← e343] at b_v6
      obtain ⟨r7, h_r7, p_r7⟩ := ro (t_resultSign (x0 := x3) (x1 := x5)  hI hA )
      refine ok_clR h_r7 ?_
      dsimp only at p_r7
      refine ok_if (fun c344 => ?_) (fun c344 => ?_)
      ·
        replace c344 := ti_eqP c344 rfl rfl
        exact t_isResultValue_74   hself28 (x1 := x1) (x2 := x2) (x3 := x3) (x5 := x5) (t0 := (1 : Int32)) hI hA r_x1 r_x2 (by omega) (by decide) m28
      ·
        replace c344 := ti_eqN c344 rfl rfl
        exact t_isResultValue_74   hself28 (x1 := x1) (x2 := x2) (x3 := x3) (x5 := x5) (t0 := (0 : Int32)) hI hA r_x1 r_x2 (by omega) (by decide) m28
theorem t_isResultValue_28  {I : Nat → Int32} {A : Nat → Nat → Int32} (hI : TJ I) (hA : TK A) : ∀ (n : Nat) (x1 : Int32) (x2 : Int32) (x3 : Int32) (x4 : Int32) (x5 : Int32),  ((0 : Int) ≤ x1.toInt ∧ x1.toInt ≤ (1 : Int)) → ((0 : Int) ≤ x2.toInt ∧ x2.toInt ≤ (7 : Int)) → ((0 : Int) ≤ x4.toInt ∧ x4.toInt ≤ (1 : Int)) → ((0 : Int) ≤ x5.toInt ∧ x5.toInt ≤ (7 : Int)) → (8 - x5.toInt) < (n : Int) → Ok (f_isResultValue_28  n x1 x2 x3 x4 x5 I A) (fun o => o.2 = (I, A) ∧ ((0 : Int) ≤ o.1.toInt ∧ o.1.toInt ≤ (1 : Int))) := by
  intro n
  induction n with
  | zero => intro x1 x2 x3 x4 x5 g0 g1 g2 g3  hm; exfalso; omega
  | succ n ih =>
    intro x1 x2 x3 x4 x5 g0 g1 g2 g3  hm
    exact t_isResultValue_28s   (N28 := n)  ih hI hA g0 g1 g2 g3  (by omega)
theorem t_isResultValue_23  {I : Nat → Int32} {A : Nat → Nat → Int32} {x1 : Int32} {x2 : Int32} {x3 : Int32} {t0 : Int32} (hI : TJ I) (hA : TK A) (r_x1 : (0 : Int) ≤ x1.toInt ∧ x1.toInt ≤ (1 : Int)) (r_x2 : (0 : Int) ≤ x2.toInt ∧ x2.toInt ≤ (7 : Int)) (r_t0 : (0 : Int) ≤ t0.toInt ∧ t0.toInt ≤ (1 : Int)) : Ok (f_isResultValue_23 x1 x2 x3 t0 I A) (fun o => o.2 = (I, A) ∧ ((0 : Int) ≤ o.1.toInt ∧ o.1.toInt ≤ (1 : Int))) := by
  unfold f_isResultValue_23
  exact t_isResultValue_28    hI hA mFuel x1 x2 x3 t0 (0 : Int32)  r_x1 r_x2 r_t0 (by decide) (by show _ < ((200000 : Nat) : Int); have z0 : (0 : Int32).toInt = 0 := rfl; omega)
theorem t_isResultValue_0  {I : Nat → Int32} {A : Nat → Nat → Int32} {x1 : Int32} {x2 : Int32} {x3 : Int32} (hI : TJ I) (hA : TK A) (r_x1 : (0 : Int) ≤ x1.toInt ∧ x1.toInt ≤ (1 : Int)) (r_x2 : (0 : Int) ≤ x2.toInt ∧ x2.toInt ≤ (7 : Int)) : Ok (f_isResultValue_0 x1 x2 x3 I A) (fun o => o.2 = (I, A) ∧ ((0 : Int) ≤ o.1.toInt ∧ o.1.toInt ≤ (1 : Int))) := by
  unfold f_isResultValue_0
  refine ok_bnd (fun v1 e345 => ?_)
  have t_v1 : v1.toInt = 8 * x1.toInt := ti_mul e345 (show (8 : Int32).toInt = 8 from rfl) rfl (by omega) (by omega)
  refine ok_bnd (fun v2 e346 => ?_)
  have t_v2 : v2.toInt = v1.toInt + x2.toInt := ti_add e346 rfl rfl (by omega) (by omega)
  refine ok_chk (ti_in (by omega) (by omega)) ?_
  refine ok_bnd (fun v3 e347 => ?_)
  have b_v3 := tA_21 hA ((v2).toNatClampNeg)
  rw [← e347] at b_v3
  obtain ⟨r4, h_r4, p_r4⟩ := ro (t_resultSize (x0 := x3)  hI hA )
  refine ok_clR h_r4 ?_
  dsimp only at p_r4
  refine ok_if (fun c348 => ?_) (fun c348 => ?_)
  ·
    replace c348 := ti_eqP c348 rfl rfl
    exact t_isResultValue_23    (x1 := x1) (x2 := x2) (x3 := x3) (t0 := (1 : Int32)) hI hA r_x1 r_x2 (by decide)
  ·
    replace c348 := ti_eqN c348 rfl rfl
    exact t_isResultValue_23    (x1 := x1) (x2 := x2) (x3 := x3) (t0 := (0 : Int32)) hI hA r_x1 r_x2 (by decide)
theorem t_isResultValue  {I : Nat → Int32} {A : Nat → Nat → Int32} {x1 : Int32} {x2 : Int32} {x3 : Int32} (hI : TJ I) (hA : TK A) (r_x1 : (0 : Int) ≤ x1.toInt ∧ x1.toInt ≤ (1 : Int)) (r_x2 : (0 : Int) ≤ x2.toInt ∧ x2.toInt ≤ (7 : Int)) : Ok (f_isResultValue x1 x2 x3 I A) (fun o => o.2 = (I, A) ∧ ((0 : Int) ≤ o.1.toInt ∧ o.1.toInt ≤ (1 : Int))) := t_isResultValue_0  hI hA r_x1 r_x2
end
section
theorem t_type_90s  {I : Nat → Int32} {A : Nat → Nat → Int32} {self90 : Int64 → Int32 → Int32 → (Nat → Int32) → (Nat → Nat → Int32) → Option (Int32 × MS)} {N90 : Nat} (hself90 : ∀ (x1 : Int64) (x3 : Int32) (x4 : Int32) (I : Nat → Int32) (A : Nat → Nat → Int32), TJ I → TK A → ((1 : Int) ≤ x3.toInt ∧ x3.toInt ≤ (8 : Int)) → ((0 : Int) ≤ x4.toInt ∧ x4.toInt ≤ (8 : Int)) → ((I 1).toInt + (x3.toInt - x4.toInt) ≤ 2000) → (9 - x4.toInt) < (N90 : Int) → Ok (self90 x1 x3 x4 I A) (fun o => TJ o.2.1 ∧ TK o.2.2 ∧ ((0 : Int) ≤ o.1.toInt ∧ o.1.toInt ≤ (1 : Int)))) {x1 : Int64} {x3 : Int32} {x4 : Int32} (hI : TJ I) (hA : TK A) (r_x3 : (1 : Int) ≤ x3.toInt ∧ x3.toInt ≤ (8 : Int)) (r_x4 : (0 : Int) ≤ x4.toInt ∧ x4.toInt ≤ (8 : Int)) (q0 : (I 1).toInt + (x3.toInt - x4.toInt) ≤ 2000) (m90 : (9 - x4.toInt) ≤ (N90 : Int)) : Ok (f_type_90s self90 x1 x3 x4 I A) (fun o => TJ o.2.1 ∧ TK o.2.2 ∧ ((0 : Int) ≤ o.1.toInt ∧ o.1.toInt ≤ (1 : Int))) := by
  unfold f_type_90s
  have b_I_1 := tI_1 hI
  refine ok_if (fun c1 => ?_) (fun c1 => ?_)
  ·
    replace c1 := ti_leP c1 rfl rfl
    refine ok_chk (by decide) ?_
    exact ok_ret ⟨hI, hA, (show (0 : Int) ≤ (1 : Int32).toInt ∧ (1 : Int32).toInt ≤ (1 : Int) from (by decide))⟩
  ·
    replace c1 := ti_leN c1 rfl rfl
    refine ok_bnd (fun v1 e2 => ?_)
    have t_v1 : v1.toInt = 8 * x4.toInt := ti_mul e2 (show (8 : Int32).toInt = 8 from rfl) rfl (by omega) (by omega)
    refine ok_bnd (fun v2 e3 => ?_)
    refine ok_bnd (fun v3 e4 => ?_)
    refine ok_bnd (fun v4 e5 => ?_)
    refine ok_bnd (fun v5 e6 => ?_)
    have t_v5 := nar_cb e6
    refine ok_chk (ti_in (by omega) (by omega)) ?_
    refine ok_bnd (fun A6 e7 => ?_)
    have hA_A6 : TK A6 := e7.symm ▸ tk_n hA rfl
    refine ok_bnd (fun v7 e8 => ?_)
    have t_v7 : v7.toInt = (I 1).toInt + 1 := ti_add e8 rfl (show (1 : Int32).toInt = 1 from rfl) (by omega) (by omega)
    refine ok_bnd (fun I8 e9 => ?_)
    have hI_I8 : TJ I8 := e9.symm ▸ tj_u hI (k := 1) (show (0 : Int) ≤ v7.toInt from (by omega)) (show v7.toInt ≤ (2000 : Int) from (by omega))
    have : (I8 1).toInt = v7.toInt := by rw [e9]; exact rfl
    refine ok_bnd (fun v9 e10 => ?_)
    have t_v9 : v9.toInt = x4.toInt + 1 := ti_add e10 rfl (show (1 : Int32).toInt = 1 from rfl) (by omega) (by omega)
    have b_I8_1 := tI_1 hI_I8
    exact hself90 x1 x3 v9 I8 A6 hI_I8 hA_A6 r_x3 (by omega) (by omega) (by omega)
theorem t_type_90   : ∀ (n : Nat) (x1 : Int64) (x3 : Int32) (x4 : Int32) (I : Nat → Int32) (A : Nat → Nat → Int32), TJ I → TK A → ((1 : Int) ≤ x3.toInt ∧ x3.toInt ≤ (8 : Int)) → ((0 : Int) ≤ x4.toInt ∧ x4.toInt ≤ (8 : Int)) → ((I 1).toInt + (x3.toInt - x4.toInt) ≤ 2000) → (9 - x4.toInt) < (n : Int) → Ok (f_type_90  n x1 x3 x4 I A) (fun o => TJ o.2.1 ∧ TK o.2.2 ∧ ((0 : Int) ≤ o.1.toInt ∧ o.1.toInt ≤ (1 : Int))) := by
  intro n
  induction n with
  | zero => intro x1 x3 x4 I A hI hA g0 g1 g2  hm; exfalso; omega
  | succ n ih =>
    intro x1 x3 x4 I A hI hA g0 g1 g2  hm
    exact t_type_90s   (N90 := n)  ih hI hA g0 g1 g2  (by omega)
theorem t_type_81  {I : Nat → Int32} {A : Nat → Nat → Int32} {self33 : Int64 → Int32 → Int32 → (Nat → Int32) → (Nat → Nat → Int32) → Option (Int32 × MS)} {N33 : Nat} (hself33 : ∀ (x1 : Int64) (x3 : Int32) (x4 : Int32) (I : Nat → Int32) (A : Nat → Nat → Int32), TJ I → TK A → ((1 : Int) ≤ x3.toInt ∧ x3.toInt ≤ (8 : Int)) → ((0 : Int) ≤ x4.toInt ∧ x4.toInt ≤ (8 : Int)) → ((I 1).toInt + x3.toInt ≤ 2000) → (9 - x4.toInt) < (N33 : Int) → Ok (self33 x1 x3 x4 I A) (fun o => TJ o.2.1 ∧ TK o.2.2 ∧ ((0 : Int) ≤ o.1.toInt ∧ o.1.toInt ≤ (1 : Int)))) {x1 : Int64} {x3 : Int32} {x4 : Int32} (hI : TJ I) (hA : TK A) (r_x3 : (1 : Int) ≤ x3.toInt ∧ x3.toInt ≤ (8 : Int)) (r_x4 : (0 : Int) ≤ x4.toInt ∧ x4.toInt ≤ (7 : Int)) (q0 : (I 1).toInt + x3.toInt ≤ 2000) (m33 : (9 - x4.toInt) ≤ (N33 : Int)) : Ok (f_type_81 self33 x1 x3 x4 I A) (fun o => TJ o.2.1 ∧ TK o.2.2 ∧ ((0 : Int) ≤ o.1.toInt ∧ o.1.toInt ≤ (1 : Int))) := by
  unfold f_type_81
  have b_I_1 := tI_1 hI
  refine ok_bnd (fun v1 e11 => ?_)
  have t_v1 : v1.toInt = x4.toInt + 1 := ti_add e11 rfl (show (1 : Int32).toInt = 1 from rfl) (by omega) (by omega)
  exact hself33 x1 x3 v1 I A hI hA r_x3 (by omega) q0 (by omega)
theorem t_type_33s  {I : Nat → Int32} {A : Nat → Nat → Int32} {self33 : Int64 → Int32 → Int32 → (Nat → Int32) → (Nat → Nat → Int32) → Option (Int32 × MS)} {N33 : Nat} (hself33 : ∀ (x1 : Int64) (x3 : Int32) (x4 : Int32) (I : Nat → Int32) (A : Nat → Nat → Int32), TJ I → TK A → ((1 : Int) ≤ x3.toInt ∧ x3.toInt ≤ (8 : Int)) → ((0 : Int) ≤ x4.toInt ∧ x4.toInt ≤ (8 : Int)) → ((I 1).toInt + x3.toInt ≤ 2000) → (9 - x4.toInt) < (N33 : Int) → Ok (self33 x1 x3 x4 I A) (fun o => TJ o.2.1 ∧ TK o.2.2 ∧ ((0 : Int) ≤ o.1.toInt ∧ o.1.toInt ≤ (1 : Int)))) {x1 : Int64} {x3 : Int32} {x4 : Int32} (hI : TJ I) (hA : TK A) (r_x3 : (1 : Int) ≤ x3.toInt ∧ x3.toInt ≤ (8 : Int)) (r_x4 : (0 : Int) ≤ x4.toInt ∧ x4.toInt ≤ (8 : Int)) (q0 : (I 1).toInt + x3.toInt ≤ 2000) (m33 : (9 - x4.toInt) ≤ (N33 : Int)) : Ok (f_type_33s self33 x1 x3 x4 I A) (fun o => TJ o.2.1 ∧ TK o.2.2 ∧ ((0 : Int) ≤ o.1.toInt ∧ o.1.toInt ≤ (1 : Int))) := by
  unfold f_type_33s
  have b_I_1 := tI_1 hI
  refine ok_if (fun c12 => ?_) (fun c12 => ?_)
  ·
    replace c12 := ti_leP c12 rfl rfl
    exact t_type_90     mFuel x1 x3 (0 : Int32) I A hI hA r_x3 (by decide) (by have z0 : (0 : Int32).toInt = 0 := rfl; omega) (by show _ < ((200000 : Nat) : Int); have z0 : (0 : Int32).toInt = 0 := rfl; omega)
  ·
    replace c12 := ti_leN c12 rfl rfl
    refine ok_bnd (fun v1 e13 => ?_)
    have t_v1 : v1.toInt = 8 * x4.toInt := ti_mul e13 (show (8 : Int32).toInt = 8 from rfl) rfl (by omega) (by omega)
    refine ok_bnd (fun v2 e14 => ?_)
    refine ok_bnd (fun v3 e15 => ?_)
    refine ok_bnd (fun v4 e16 => ?_)
    refine ok_if (fun c17 => ?_) (fun c17 => ?_)
    ·
      replace c17 := ti_eqP c17 rfl (show (0 : Int32).toInt = 0 from rfl)
      exact t_type_81   hself33 (x1 := x1) (x3 := x3) (x4 := x4) hI hA r_x3 (by omega) q0 m33
    ·
      replace c17 := ti_eqN c17 rfl (show (0 : Int32).toInt = 0 from rfl)
      refine ok_bnd (fun v5 e18 => ?_)
      refine ok_if (fun c19 => ?_) (fun c19 => ?_)
      ·
        replace c19 := ti_ltP c19 rfl (show (0 : Int32).toInt = 0 from rfl)
        unfold f_type_79
        refine ok_chk (by decide) ?_
        exact ok_ret ⟨hI, hA, (show (0 : Int) ≤ (0 : Int32).toInt ∧ (0 : Int32).toInt ≤ (1 : Int) from (by decide))⟩
      ·
        replace c19 := ti_ltN c19 rfl (show (0 : Int32).toInt = 0 from rfl)
        refine ok_bnd (fun v6 e20 => ?_)
        refine ok_if (fun c21 => ?_) (fun c21 => ?_)
        ·
          replace c21 := ti_leP c21 rfl (show (0 : Int32).toInt = 0 from rfl)
          exact t_type_81   hself33 (x1 := x1) (x3 := x3) (x4 := x4) hI hA r_x3 (by omega) q0 m33
        ·
          replace c21 := ti_leN c21 rfl (show (0 : Int32).toInt = 0 from rfl)
          unfold f_type_79
          refine ok_chk (by decide) ?_
          exact ok_ret ⟨hI, hA, (show (0 : Int) ≤ (0 : Int32).toInt ∧ (0 : Int32).toInt ≤ (1 : Int) from (by decide))⟩
theorem t_type_33   : ∀ (n : Nat) (x1 : Int64) (x3 : Int32) (x4 : Int32) (I : Nat → Int32) (A : Nat → Nat → Int32), TJ I → TK A → ((1 : Int) ≤ x3.toInt ∧ x3.toInt ≤ (8 : Int)) → ((0 : Int) ≤ x4.toInt ∧ x4.toInt ≤ (8 : Int)) → ((I 1).toInt + x3.toInt ≤ 2000) → (9 - x4.toInt) < (n : Int) → Ok (f_type_33  n x1 x3 x4 I A) (fun o => TJ o.2.1 ∧ TK o.2.2 ∧ ((0 : Int) ≤ o.1.toInt ∧ o.1.toInt ≤ (1 : Int))) := by
  intro n
  induction n with
  | zero => intro x1 x3 x4 I A hI hA g0 g1 g2  hm; exfalso; omega
  | succ n ih =>
    intro x1 x3 x4 I A hI hA g0 g1 g2  hm
    exact t_type_33s   (N33 := n)  ih hI hA g0 g1 g2  (by omega)
theorem t_type_0  {I : Nat → Int32} {A : Nat → Nat → Int32} {x1 : Int64} {x3 : Int32} (hI : TJ I) (hA : TK A) : Ok (f_type_0 x1 x3 I A) (fun o => TJ o.2.1 ∧ TK o.2.2 ∧ ((0 : Int) ≤ o.1.toInt ∧ o.1.toInt ≤ (1 : Int))) := by
  unfold f_type_0
  have b_I_1 := tI_1 hI
  refine ok_bnd (fun I1 e22 => ?_)
  have hI_I1 : TJ I1 := e22.symm ▸ tj_u hI (k := 0) (show (0 : Int) ≤ (0 : Int32).toInt from (by decide)) (show (0 : Int32).toInt ≤ (2 : Int) from (by decide))
  have : (I1 1).toInt = (I 1).toInt := by rw [e22]; rfl
  refine ok_if (fun c23 => ?_) (fun c23 => ?_)
  ·
    replace c23 := ti_ltP c23 rfl (show (1 : Int32).toInt = 1 from rfl)
    unfold f_type_28
    refine ok_chk (by decide) ?_
    exact ok_ret ⟨hI_I1, hA, (show (0 : Int) ≤ (0 : Int32).toInt ∧ (0 : Int32).toInt ≤ (1 : Int) from (by decide))⟩
  ·
    replace c23 := ti_ltN c23 rfl (show (1 : Int32).toInt = 1 from rfl)
    refine ok_if (fun c24 => ?_) (fun c24 => ?_)
    ·
      replace c24 := ti_ltP c24 (show (8 : Int32).toInt = 8 from rfl) rfl
      unfold f_type_28
      refine ok_chk (by decide) ?_
      exact ok_ret ⟨hI_I1, hA, (show (0 : Int) ≤ (0 : Int32).toInt ∧ (0 : Int32).toInt ≤ (1 : Int) from (by decide))⟩
    ·
      replace c24 := ti_ltN c24 (show (8 : Int32).toInt = 8 from rfl) rfl
      refine ok_bnd (fun v2 e25 => ?_)
      have b_I1_1 := tI_1 hI_I1
      have t_v2 : v2.toInt = (I1 1).toInt + x3.toInt := ti_add e25 rfl rfl (by omega) (by omega)
      refine ok_if (fun c26 => ?_) (fun c26 => ?_)
      ·
        replace c26 := ti_leP c26 rfl (show (2000 : Int32).toInt = 2000 from rfl)
        exact t_type_33     mFuel x1 x3 (0 : Int32) I1 A hI_I1 hA (by omega) (by decide) (by have z0 : (0 : Int32).toInt = 0 := rfl; omega) (by show _ < ((200000 : Nat) : Int); have z0 : (0 : Int32).toInt = 0 := rfl; omega)
      ·
        replace c26 := ti_leN c26 rfl (show (2000 : Int32).toInt = 2000 from rfl)
        unfold f_type_28
        refine ok_chk (by decide) ?_
        exact ok_ret ⟨hI_I1, hA, (show (0 : Int) ≤ (0 : Int32).toInt ∧ (0 : Int32).toInt ≤ (1 : Int) from (by decide))⟩
theorem t_type  {I : Nat → Int32} {A : Nat → Nat → Int32} {x1 : Int64} {x3 : Int32} (hI : TJ I) (hA : TK A) : Ok (f_type x1 x3 I A) (fun o => TJ o.2.1 ∧ TK o.2.2 ∧ ((0 : Int) ≤ o.1.toInt ∧ o.1.toInt ≤ (1 : Int))) := t_type_0  hI hA 
theorem t_cut_0  {I : Nat → Int32} {A : Nat → Nat → Int32} {x1 : Int32} (hI : TJ I) (hA : TK A) : Ok (f_cut_0 x1 I A) (fun o => TJ o.2.1 ∧ TK o.2.2 ∧ ((0 : Int) ≤ o.1.toInt ∧ o.1.toInt ≤ (1 : Int))) := by
  unfold f_cut_0
  have b_I_1 := tI_1 hI
  refine ok_bnd (fun I1 e27 => ?_)
  have hI_I1 : TJ I1 := e27.symm ▸ tj_u hI (k := 0) (show (0 : Int) ≤ (0 : Int32).toInt from (by decide)) (show (0 : Int32).toInt ≤ (2 : Int) from (by decide))
  have : (I1 1).toInt = (I 1).toInt := by rw [e27]; rfl
  refine ok_if (fun c28 => ?_) (fun c28 => ?_)
  ·
    replace c28 := ti_ltP c28 rfl (show (0 : Int32).toInt = 0 from rfl)
    unfold f_cut_17
    refine ok_chk (by decide) ?_
    exact ok_ret ⟨hI_I1, hA, (show (0 : Int) ≤ (0 : Int32).toInt ∧ (0 : Int32).toInt ≤ (1 : Int) from (by decide))⟩
  ·
    replace c28 := ti_ltN c28 rfl (show (0 : Int32).toInt = 0 from rfl)
    have b_I1_1 := tI_1 hI_I1
    refine ok_if (fun c29 => ?_) (fun c29 => ?_)
    ·
      replace c29 := ti_leP c29 rfl rfl
      refine ok_bnd (fun I2 e30 => ?_)
      have hI_I2 : TJ I2 := e30.symm ▸ tj_u hI_I1 (k := 1) (show (0 : Int) ≤ x1.toInt from (by omega)) (show x1.toInt ≤ (2000 : Int) from (by omega))
      have : (I2 1).toInt = x1.toInt := by rw [e30]; exact rfl
      refine ok_chk (by decide) ?_
      exact ok_ret ⟨hI_I2, hA, (show (0 : Int) ≤ (1 : Int32).toInt ∧ (1 : Int32).toInt ≤ (1 : Int) from (by decide))⟩
    ·
      replace c29 := ti_leN c29 rfl rfl
      unfold f_cut_17
      refine ok_chk (by decide) ?_
      exact ok_ret ⟨hI_I1, hA, (show (0 : Int) ≤ (0 : Int32).toInt ∧ (0 : Int32).toInt ≤ (1 : Int) from (by decide))⟩
theorem t_cut  {I : Nat → Int32} {A : Nat → Nat → Int32} {x1 : Int32} (hI : TJ I) (hA : TK A) : Ok (f_cut x1 I A) (fun o => TJ o.2.1 ∧ TK o.2.2 ∧ ((0 : Int) ≤ o.1.toInt ∧ o.1.toInt ≤ (1 : Int))) := t_cut_0  hI hA 
theorem t_ink_0  {I : Nat → Int32} {A : Nat → Nat → Int32} {x1 : Int32} (hI : TJ I) (hA : TK A) (q0 : (I 3).toInt ≤ 79999) : Ok (f_ink_0 x1 I A) (fun o => TJ o.2.1 ∧ TK o.2.2 ∧ ((o.2.1 3).toInt = (I 3).toInt + 1)) := by
  unfold f_ink_0
  have b_I_3 := tI_3 hI
  refine ok_chk (ti_in (by omega) (by omega)) ?_
  refine ok_bnd (fun A1 e31 => ?_)
  have hA_A1 : TK A1 := e31.symm ▸ tk_n hA rfl
  refine ok_bnd (fun v2 e32 => ?_)
  have t_v2 : v2.toInt = (I 3).toInt + 1 := ti_add e32 rfl (show (1 : Int32).toInt = 1 from rfl) (by omega) (by omega)
  refine ok_bnd (fun I3 e33 => ?_)
  have hI_I3 : TJ I3 := e33.symm ▸ tj_u hI (k := 3) (show (0 : Int) ≤ v2.toInt from (by omega)) (show v2.toInt ≤ (80000 : Int) from (by omega))
  have : (I3 3).toInt = v2.toInt := by rw [e33]; exact rfl
  exact ok_ret ⟨hI_I3, hA_A1, (by show (I3 3).toInt = (I 3).toInt + 1; have z : (0 : Int32).toInt = 0 := rfl; omega)⟩
theorem t_ink  {I : Nat → Int32} {A : Nat → Nat → Int32} {x1 : Int32} (hI : TJ I) (hA : TK A) (q0 : (I 3).toInt ≤ 79999) : Ok (f_ink x1 I A) (fun o => TJ o.2.1 ∧ TK o.2.2 ∧ ((o.2.1 3).toInt = (I 3).toInt + 1)) := t_ink_0  hI hA q0
theorem t_sayNumber_18s {cc : Int} {I : Nat → Int32} {A : Nat → Nat → Int32} {self18 : Int32 → Int32 → (Nat → Int32) → (Nat → Nat → Int32) → Option (Int32 × MS)} {N18 : Nat} (hself18 : ∀ (x1 : Int32) (x2 : Int32) (I : Nat → Int32) (A : Nat → Nat → Int32), TJ I → TK A → ((-1 : Int) ≤ x1.toInt ∧ x1.toInt ≤ (100000 : Int)) → ((0 : Int) ≤ x2.toInt ∧ x2.toInt ≤ (100000 : Int)) → ((I 3).toInt ≤ cc + 6 ∧ (1 ≤ x2.toInt → (I 3).toInt ≤ cc + 5) ∧ (10 ≤ x2.toInt → (I 3).toInt ≤ cc + 4) ∧ (100 ≤ x2.toInt → (I 3).toInt ≤ cc + 3) ∧ (1000 ≤ x2.toInt → (I 3).toInt ≤ cc + 2) ∧ (10000 ≤ x2.toInt → (I 3).toInt ≤ cc + 1) ∧ (100000 ≤ x2.toInt → (I 3).toInt ≤ cc) ∧ cc ≤ 79900) → (x2.toInt + 1) < (N18 : Int) → Ok (self18 x1 x2 I A) (fun o => TJ o.2.1 ∧ TK o.2.2 ∧ ((o.2.1 3).toInt ≤ cc + 6))) {x1 : Int32} {x2 : Int32} (hI : TJ I) (hA : TK A) (r_x1 : (-1 : Int) ≤ x1.toInt ∧ x1.toInt ≤ (100000 : Int)) (r_x2 : (0 : Int) ≤ x2.toInt ∧ x2.toInt ≤ (100000 : Int)) (q0 : (I 3).toInt ≤ cc + 6 ∧ (1 ≤ x2.toInt → (I 3).toInt ≤ cc + 5) ∧ (10 ≤ x2.toInt → (I 3).toInt ≤ cc + 4) ∧ (100 ≤ x2.toInt → (I 3).toInt ≤ cc + 3) ∧ (1000 ≤ x2.toInt → (I 3).toInt ≤ cc + 2) ∧ (10000 ≤ x2.toInt → (I 3).toInt ≤ cc + 1) ∧ (100000 ≤ x2.toInt → (I 3).toInt ≤ cc) ∧ cc ≤ 79900) (m18 : (x2.toInt + 1) ≤ (N18 : Int)) : Ok (f_sayNumber_18s self18 x1 x2 I A) (fun o => TJ o.2.1 ∧ TK o.2.2 ∧ ((o.2.1 3).toInt ≤ cc + 6)) := by
  unfold f_sayNumber_18s
  have b_I_3 := tI_3 hI
  refine ok_if (fun c34 => ?_) (fun c34 => ?_)
  ·
    replace c34 := ti_leP c34 rfl (show (0 : Int32).toInt = 0 from rfl)
    exact ok_ret ⟨hI, hA, (by show (I 3).toInt ≤ cc + 6; have z : (0 : Int32).toInt = 0 := rfl; omega)⟩
  ·
    replace c34 := ti_leN c34 rfl (show (0 : Int32).toInt = 0 from rfl)
    refine ok_chk (ti_ne0 (by omega)) ?_
    refine ok_bnd (fun v1 e35 => ?_)
    refine ok_bnd (fun v2 e36 => ?_)
    refine ok_bnd (fun v3 e37 => ?_)
    refine ok_bnd (fun v4 e38 => ?_)
    have t_v4 := nar_cb e38
    obtain ⟨⟨r5, Ic5, Ac5⟩, h_r5, hI_Ic5, hA_Ac5, p_r5_0⟩ := t_ink (x1 := v4)  hI hA (by omega)
    replace hI_Ic5 : TJ Ic5 := hI_Ic5
    replace hA_Ac5 : TK Ac5 := hA_Ac5
    dsimp only at p_r5_0
    refine ok_clR h_r5 ?_
    refine ok_bnd (fun v6 e39 => ?_)
    have t_v6 : v6.toInt = x2.toInt / 10 := ti_div e39 rfl (show (10 : Int32).toInt = 10 from rfl) (by omega) (by decide)
    have b_Ic5_3 := tI_3 hI_Ic5
    exact hself18 x1 v6 Ic5 Ac5 hI_Ic5 hA_Ac5 r_x1 (by omega) (by omega) (by omega)
theorem t_sayNumber_18 {cc : Int}  : ∀ (n : Nat) (x1 : Int32) (x2 : Int32) (I : Nat → Int32) (A : Nat → Nat → Int32), TJ I → TK A → ((-1 : Int) ≤ x1.toInt ∧ x1.toInt ≤ (100000 : Int)) → ((0 : Int) ≤ x2.toInt ∧ x2.toInt ≤ (100000 : Int)) → ((I 3).toInt ≤ cc + 6 ∧ (1 ≤ x2.toInt → (I 3).toInt ≤ cc + 5) ∧ (10 ≤ x2.toInt → (I 3).toInt ≤ cc + 4) ∧ (100 ≤ x2.toInt → (I 3).toInt ≤ cc + 3) ∧ (1000 ≤ x2.toInt → (I 3).toInt ≤ cc + 2) ∧ (10000 ≤ x2.toInt → (I 3).toInt ≤ cc + 1) ∧ (100000 ≤ x2.toInt → (I 3).toInt ≤ cc) ∧ cc ≤ 79900) → (x2.toInt + 1) < (n : Int) → Ok (f_sayNumber_18  n x1 x2 I A) (fun o => TJ o.2.1 ∧ TK o.2.2 ∧ ((o.2.1 3).toInt ≤ cc + 6)) := by
  intro n
  induction n with
  | zero => intro x1 x2 I A hI hA g0 g1 g2  hm; exfalso; omega
  | succ n ih =>
    intro x1 x2 I A hI hA g0 g1 g2  hm
    exact t_sayNumber_18s (cc := cc)  (N18 := n)  ih hI hA g0 g1 g2  (by omega)
theorem t_sayNumber_2s {cc : Int} {I : Nat → Int32} {A : Nat → Nat → Int32} {self2 : Int32 → Int32 → (Nat → Int32) → (Nat → Nat → Int32) → Option (Int32 × MS)} {N2 : Nat} (hself2 : ∀ (x1 : Int32) (x2 : Int32) (I : Nat → Int32) (A : Nat → Nat → Int32), TJ I → TK A → ((-1 : Int) ≤ x1.toInt ∧ x1.toInt ≤ (100000 : Int)) → ((1 : Int) ≤ x2.toInt ∧ x2.toInt ≤ (100000 : Int)) → ((I 3).toInt ≤ cc ∧ cc ≤ 79700) → (x2.toInt ≤ x1.toInt ∨ x2.toInt = 1) → (100001 - x2.toInt) < (N2 : Int) → Ok (self2 x1 x2 I A) (fun o => TJ o.2.1 ∧ TK o.2.2 ∧ ((o.2.1 3).toInt ≤ cc + 6))) {x1 : Int32} {x2 : Int32} (hI : TJ I) (hA : TK A) (r_x1 : (-1 : Int) ≤ x1.toInt ∧ x1.toInt ≤ (100000 : Int)) (r_x2 : (1 : Int) ≤ x2.toInt ∧ x2.toInt ≤ (100000 : Int)) (q0 : (I 3).toInt ≤ cc ∧ cc ≤ 79700) (q1 : x2.toInt ≤ x1.toInt ∨ x2.toInt = 1) (m2 : (100001 - x2.toInt) ≤ (N2 : Int)) : Ok (f_sayNumber_2s self2 x1 x2 I A) (fun o => TJ o.2.1 ∧ TK o.2.2 ∧ ((o.2.1 3).toInt ≤ cc + 6)) := by
  unfold f_sayNumber_2s
  have b_I_3 := tI_3 hI
  refine ok_bnd (fun v1 e40 => ?_)
  have t_v1 : v1.toInt = x2.toInt * 10 := ti_mul e40 rfl (show (10 : Int32).toInt = 10 from rfl) (by omega) (by omega)
  refine ok_if (fun c41 => ?_) (fun c41 => ?_)
  ·
    replace c41 := ti_ltP c41 rfl rfl
    exact t_sayNumber_18 (cc := cc)    mFuel x1 x2 I A hI hA r_x1 (by omega) (by omega) (by show _ < ((200000 : Nat) : Int); omega)
  ·
    replace c41 := ti_ltN c41 rfl rfl
    refine ok_bnd (fun v2 e42 => ?_)
    have t_v2 : v2.toInt = x2.toInt * 10 := ti_mul e42 rfl (show (10 : Int32).toInt = 10 from rfl) (by omega) (by omega)
    exact hself2 x1 v2 I A hI hA r_x1 (by omega) q0 (by omega) (by omega)
theorem t_sayNumber_2 {cc : Int}  : ∀ (n : Nat) (x1 : Int32) (x2 : Int32) (I : Nat → Int32) (A : Nat → Nat → Int32), TJ I → TK A → ((-1 : Int) ≤ x1.toInt ∧ x1.toInt ≤ (100000 : Int)) → ((1 : Int) ≤ x2.toInt ∧ x2.toInt ≤ (100000 : Int)) → ((I 3).toInt ≤ cc ∧ cc ≤ 79700) → (x2.toInt ≤ x1.toInt ∨ x2.toInt = 1) → (100001 - x2.toInt) < (n : Int) → Ok (f_sayNumber_2  n x1 x2 I A) (fun o => TJ o.2.1 ∧ TK o.2.2 ∧ ((o.2.1 3).toInt ≤ cc + 6)) := by
  intro n
  induction n with
  | zero => intro x1 x2 I A hI hA g0 g1 g2 g3  hm; exfalso; omega
  | succ n ih =>
    intro x1 x2 I A hI hA g0 g1 g2 g3  hm
    exact t_sayNumber_2s (cc := cc)  (N2 := n)  ih hI hA g0 g1 g2 g3  (by omega)
theorem t_sayNumber_0 {cc : Int} {I : Nat → Int32} {A : Nat → Nat → Int32} {x1 : Int32} (hI : TJ I) (hA : TK A) (r_x1 : (-1 : Int) ≤ x1.toInt ∧ x1.toInt ≤ (100000 : Int)) (q0 : (I 3).toInt ≤ cc ∧ cc ≤ 79700) : Ok (f_sayNumber_0 x1 I A) (fun o => TJ o.2.1 ∧ TK o.2.2 ∧ ((o.2.1 3).toInt ≤ cc + 6)) := by
  unfold f_sayNumber_0
  have b_I_3 := tI_3 hI
  exact t_sayNumber_2 (cc := cc)    mFuel x1 (1 : Int32) I A hI hA r_x1 (by decide) q0 (by have z0 : (1 : Int32).toInt = 1 := rfl; omega) (by show _ < ((200000 : Nat) : Int); have z0 : (1 : Int32).toInt = 1 := rfl; omega)
theorem t_sayNumber {cc : Int} {I : Nat → Int32} {A : Nat → Nat → Int32} {x1 : Int32} (hI : TJ I) (hA : TK A) (r_x1 : (-1 : Int) ≤ x1.toInt ∧ x1.toInt ≤ (100000 : Int)) (q0 : (I 3).toInt ≤ cc ∧ cc ≤ 79700) : Ok (f_sayNumber x1 I A) (fun o => TJ o.2.1 ∧ TK o.2.2 ∧ ((o.2.1 3).toInt ≤ cc + 6)) := t_sayNumber_0 (cc := cc) hI hA r_x1 q0
theorem t_sayRemark_8s {cc : Int} {I : Nat → Int32} {A : Nat → Nat → Int32} {self8 : Int32 → Int32 → (Nat → Int32) → (Nat → Nat → Int32) → Option (Int32 × MS)} {N8 : Nat} (hself8 : ∀ (x1 : Int32) (x2 : Int32) (I : Nat → Int32) (A : Nat → Nat → Int32), TJ I → TK A → ((0 : Int) ≤ x1.toInt ∧ x1.toInt ≤ (601 : Int)) → ((0 : Int) ≤ x2.toInt ∧ x2.toInt ≤ (200 : Int)) → ((I 3).toInt ≤ cc + 1 + x2.toInt ∧ cc ≤ 79700) → (201 - x2.toInt) < (N8 : Int) → Ok (self8 x1 x2 I A) (fun o => TJ o.2.1 ∧ TK o.2.2 ∧ ((o.2.1 3).toInt ≤ cc + 202))) {x1 : Int32} {x2 : Int32} (hI : TJ I) (hA : TK A) (r_x1 : (0 : Int) ≤ x1.toInt ∧ x1.toInt ≤ (601 : Int)) (r_x2 : (0 : Int) ≤ x2.toInt ∧ x2.toInt ≤ (200 : Int)) (q0 : (I 3).toInt ≤ cc + 1 + x2.toInt ∧ cc ≤ 79700) (m8 : (201 - x2.toInt) ≤ (N8 : Int)) : Ok (f_sayRemark_8s self8 x1 x2 I A) (fun o => TJ o.2.1 ∧ TK o.2.2 ∧ ((o.2.1 3).toInt ≤ cc + 202)) := by
  unfold f_sayRemark_8s
  have b_I_3 := tI_3 hI
  refine ok_chk (ti_in (by omega) (by omega)) ?_
  refine ok_bnd (fun v1 e43 => ?_)
  have b_v1 := tA_14 hA ((x1).toNatClampNeg)
  rw [← e43] at b_v1
  refine ok_if (fun c44 => ?_) (fun c44 => ?_)
  ·
    replace c44 := ti_leP c44 rfl rfl
    obtain ⟨⟨r2, Ic2, Ac2⟩, h_r2, hI_Ic2, hA_Ac2, p_r2_0⟩ := t_ink (x1 := (125 : Int32))  hI hA (by have z0 : (125 : Int32).toInt = 125 := rfl; omega)
    replace hI_Ic2 : TJ Ic2 := hI_Ic2
    replace hA_Ac2 : TK Ac2 := hA_Ac2
    dsimp only at p_r2_0
    refine ok_clR h_r2 ?_
    exact ok_ret ⟨hI_Ic2, hA_Ac2, (by show (Ic2 3).toInt ≤ cc + 202; have z : (0 : Int32).toInt = 0 := rfl; omega)⟩
  ·
    replace c44 := ti_leN c44 rfl rfl
    refine ok_bnd (fun v3 e45 => ?_)
    have t_v3 : v3.toInt = 200 * x1.toInt := ti_mul e45 (show (200 : Int32).toInt = 200 from rfl) rfl (by omega) (by omega)
    refine ok_bnd (fun v4 e46 => ?_)
    have t_v4 : v4.toInt = v3.toInt + x2.toInt := ti_add e46 rfl rfl (by omega) (by omega)
    refine ok_chk (ti_in (by omega) (by omega)) ?_
    refine ok_bnd (fun v5 e47 => ?_)
    have b_v5 := tA_15 hA ((v4).toNatClampNeg)
    rw [← e47] at b_v5
    obtain ⟨⟨r6, Ic6, Ac6⟩, h_r6, hI_Ic6, hA_Ac6, p_r6_0⟩ := t_ink (x1 := v5)  hI hA (by omega)
    replace hI_Ic6 : TJ Ic6 := hI_Ic6
    replace hA_Ac6 : TK Ac6 := hA_Ac6
    dsimp only at p_r6_0
    refine ok_clR h_r6 ?_
    refine ok_bnd (fun v7 e48 => ?_)
    have t_v7 : v7.toInt = x2.toInt + 1 := ti_add e48 rfl (show (1 : Int32).toInt = 1 from rfl) (by omega) (by omega)
    have b_Ic6_3 := tI_3 hI_Ic6
    exact hself8 x1 v7 Ic6 Ac6 hI_Ic6 hA_Ac6 r_x1 (by omega) (by omega) (by omega)
theorem t_sayRemark_8 {cc : Int}  : ∀ (n : Nat) (x1 : Int32) (x2 : Int32) (I : Nat → Int32) (A : Nat → Nat → Int32), TJ I → TK A → ((0 : Int) ≤ x1.toInt ∧ x1.toInt ≤ (601 : Int)) → ((0 : Int) ≤ x2.toInt ∧ x2.toInt ≤ (200 : Int)) → ((I 3).toInt ≤ cc + 1 + x2.toInt ∧ cc ≤ 79700) → (201 - x2.toInt) < (n : Int) → Ok (f_sayRemark_8  n x1 x2 I A) (fun o => TJ o.2.1 ∧ TK o.2.2 ∧ ((o.2.1 3).toInt ≤ cc + 202)) := by
  intro n
  induction n with
  | zero => intro x1 x2 I A hI hA g0 g1 g2  hm; exfalso; omega
  | succ n ih =>
    intro x1 x2 I A hI hA g0 g1 g2  hm
    exact t_sayRemark_8s (cc := cc)  (N8 := n)  ih hI hA g0 g1 g2  (by omega)
theorem t_sayRemark_0 {cc : Int} {I : Nat → Int32} {A : Nat → Nat → Int32} {x1 : Int32} (hI : TJ I) (hA : TK A) (r_x1 : (0 : Int) ≤ x1.toInt ∧ x1.toInt ≤ (601 : Int)) (q0 : (I 3).toInt ≤ cc ∧ cc ≤ 79700) : Ok (f_sayRemark_0 x1 I A) (fun o => TJ o.2.1 ∧ TK o.2.2 ∧ ((o.2.1 3).toInt ≤ cc + 202)) := by
  unfold f_sayRemark_0
  have b_I_3 := tI_3 hI
  obtain ⟨⟨r1, Ic1, Ac1⟩, h_r1, hI_Ic1, hA_Ac1, p_r1_0⟩ := t_ink (x1 := (123 : Int32))  hI hA (by have z0 : (123 : Int32).toInt = 123 := rfl; omega)
  replace hI_Ic1 : TJ Ic1 := hI_Ic1
  replace hA_Ac1 : TK Ac1 := hA_Ac1
  dsimp only at p_r1_0
  refine ok_clR h_r1 ?_
  have b_Ic1_3 := tI_3 hI_Ic1
  exact t_sayRemark_8 (cc := cc)    mFuel x1 (0 : Int32) Ic1 Ac1 hI_Ic1 hA_Ac1 r_x1 (by decide) (by have z0 : (0 : Int32).toInt = 0 := rfl; omega) (by show _ < ((200000 : Nat) : Int); have z0 : (0 : Int32).toInt = 0 := rfl; omega)
theorem t_sayRemark {cc : Int} {I : Nat → Int32} {A : Nat → Nat → Int32} {x1 : Int32} (hI : TJ I) (hA : TK A) (r_x1 : (0 : Int) ≤ x1.toInt ∧ x1.toInt ≤ (601 : Int)) (q0 : (I 3).toInt ≤ cc ∧ cc ≤ 79700) : Ok (f_sayRemark x1 I A) (fun o => TJ o.2.1 ∧ TK o.2.2 ∧ ((o.2.1 3).toInt ≤ cc + 202)) := t_sayRemark_0 (cc := cc) hI hA r_x1 q0
theorem t_isLegal_31  {I : Nat → Int32} {A : Nat → Nat → Int32} {self4 : Int32 → Int32 → Int32 → (Nat → Int32) → (Nat → Nat → Int32) → Option (Int32 × MS)} {N4 : Nat} (hself4 : ∀ (x1 : Int32) (x2 : Int32) (x3 : Int32),  ((0 : Int) ≤ x2.toInt ∧ x2.toInt ≤ (1 : Int)) → ((0 : Int) ≤ x3.toInt ∧ x3.toInt ≤ (2048 : Int)) → (x2.toInt = 1 → 0 ≤ x1.toInt ∧ x1.toInt ≤ 24575) → (2049 - x3.toInt) < (N4 : Int) → Ok (self4 x1 x2 x3 I A) (fun o => o.2 = (I, A) ∧ ((0 : Int) ≤ o.1.toInt ∧ o.1.toInt ≤ (1 : Int)) ∧ ((o.1.toInt = 1 → 0 ≤ x1.toInt ∧ x1.toInt ≤ 24575)))) {x1 : Int32} {x3 : Int32} {t0 : Int32} (hI : TJ I) (hA : TK A) (r_x3 : (0 : Int) ≤ x3.toInt ∧ x3.toInt ≤ (2047 : Int)) (r_t0 : (0 : Int) ≤ t0.toInt ∧ t0.toInt ≤ (1 : Int)) (q0 : t0.toInt = 1 → 0 ≤ x1.toInt ∧ x1.toInt ≤ 24575) (m4 : (2049 - x3.toInt) ≤ (N4 : Int)) : Ok (f_isLegal_31 self4 x1 x3 t0 I A) (fun o => o.2 = (I, A) ∧ ((0 : Int) ≤ o.1.toInt ∧ o.1.toInt ≤ (1 : Int)) ∧ ((o.1.toInt = 1 → 0 ≤ x1.toInt ∧ x1.toInt ≤ 24575))) := by
  unfold f_isLegal_31
  refine ok_bnd (fun v1 e49 => ?_)
  have t_v1 : v1.toInt = x3.toInt + 1 := ti_add e49 rfl (show (1 : Int32).toInt = 1 from rfl) (by omega) (by omega)
  exact hself4 x1 t0 v1 r_t0 (by omega) q0 (by omega)
theorem t_isLegal_4s  {I : Nat → Int32} {A : Nat → Nat → Int32} {self4 : Int32 → Int32 → Int32 → (Nat → Int32) → (Nat → Nat → Int32) → Option (Int32 × MS)} {N4 : Nat} (hself4 : ∀ (x1 : Int32) (x2 : Int32) (x3 : Int32),  ((0 : Int) ≤ x2.toInt ∧ x2.toInt ≤ (1 : Int)) → ((0 : Int) ≤ x3.toInt ∧ x3.toInt ≤ (2048 : Int)) → (x2.toInt = 1 → 0 ≤ x1.toInt ∧ x1.toInt ≤ 24575) → (2049 - x3.toInt) < (N4 : Int) → Ok (self4 x1 x2 x3 I A) (fun o => o.2 = (I, A) ∧ ((0 : Int) ≤ o.1.toInt ∧ o.1.toInt ≤ (1 : Int)) ∧ ((o.1.toInt = 1 → 0 ≤ x1.toInt ∧ x1.toInt ≤ 24575)))) {x1 : Int32} {x2 : Int32} {x3 : Int32} (hI : TJ I) (hA : TK A) (r_x2 : (0 : Int) ≤ x2.toInt ∧ x2.toInt ≤ (1 : Int)) (r_x3 : (0 : Int) ≤ x3.toInt ∧ x3.toInt ≤ (2048 : Int)) (q0 : x2.toInt = 1 → 0 ≤ x1.toInt ∧ x1.toInt ≤ 24575) (m4 : (2049 - x3.toInt) ≤ (N4 : Int)) : Ok (f_isLegal_4s self4 x1 x2 x3 I A) (fun o => o.2 = (I, A) ∧ ((0 : Int) ≤ o.1.toInt ∧ o.1.toInt ≤ (1 : Int)) ∧ ((o.1.toInt = 1 → 0 ≤ x1.toInt ∧ x1.toInt ≤ 24575))) := by
  unfold f_isLegal_4s
  have b_I_33 := tI_33 hI
  refine ok_if (fun c50 => ?_) (fun c50 => ?_)
  ·
    replace c50 := ti_leP c50 rfl rfl
    refine ok_chk (nar_b (by omega) (by omega)) ?_
    exact ok_ret ⟨rfl, (show (0 : Int) ≤ x2.toInt ∧ x2.toInt ≤ (1 : Int) from (by omega)), (by show ((x2 : Int32).toInt = 1 → 0 ≤ x1.toInt ∧ x1.toInt ≤ 24575); omega)⟩
  ·
    replace c50 := ti_leN c50 rfl rfl
    refine ok_if (fun c51 => ?_) (fun c51 => ?_)
    ·
      replace c51 := ti_eqP c51 rfl (show (0 : Int32).toInt = 0 from rfl)
      refine ok_chk (ti_in (by omega) (by omega)) ?_
      refine ok_bnd (fun v1 e52 => ?_)
      have b_v1 := tA_32 hA ((x3).toNatClampNeg)
      rw [← e52] at b_v1
      refine ok_if (fun c53 => ?_) (fun c53 => ?_)
      ·
        replace c53 := ti_eqP c53 rfl rfl
        unfold f_isLegal_26
        exact t_isLegal_31   hself4 (x1 := x1) (x3 := x3) (t0 := (1 : Int32)) hI hA (by omega) (by decide) (by have z0 : (1 : Int32).toInt = 1 := rfl; omega) m4
      ·
        replace c53 := ti_eqN c53 rfl rfl
        exact t_isLegal_31   hself4 (x1 := x1) (x3 := x3) (t0 := (0 : Int32)) hI hA (by omega) (by decide) (by have z0 : (0 : Int32).toInt = 0 := rfl; omega) m4
    ·
      replace c51 := ti_eqN c51 rfl (show (0 : Int32).toInt = 0 from rfl)
      unfold f_isLegal_26
      exact t_isLegal_31   hself4 (x1 := x1) (x3 := x3) (t0 := (1 : Int32)) hI hA (by omega) (by decide) (by have z0 : (1 : Int32).toInt = 1 := rfl; omega) m4
theorem t_isLegal_4  {I : Nat → Int32} {A : Nat → Nat → Int32} (hI : TJ I) (hA : TK A) : ∀ (n : Nat) (x1 : Int32) (x2 : Int32) (x3 : Int32),  ((0 : Int) ≤ x2.toInt ∧ x2.toInt ≤ (1 : Int)) → ((0 : Int) ≤ x3.toInt ∧ x3.toInt ≤ (2048 : Int)) → (x2.toInt = 1 → 0 ≤ x1.toInt ∧ x1.toInt ≤ 24575) → (2049 - x3.toInt) < (n : Int) → Ok (f_isLegal_4  n x1 x2 x3 I A) (fun o => o.2 = (I, A) ∧ ((0 : Int) ≤ o.1.toInt ∧ o.1.toInt ≤ (1 : Int)) ∧ ((o.1.toInt = 1 → 0 ≤ x1.toInt ∧ x1.toInt ≤ 24575))) := by
  intro n
  induction n with
  | zero => intro x1 x2 x3 g0 g1 g2  hm; exfalso; omega
  | succ n ih =>
    intro x1 x2 x3 g0 g1 g2  hm
    exact t_isLegal_4s   (N4 := n)  ih hI hA g0 g1 g2  (by omega)
theorem t_isLegal_0  {I : Nat → Int32} {A : Nat → Nat → Int32} {x1 : Int32} (hI : TJ I) (hA : TK A) : Ok (f_isLegal_0 x1 I A) (fun o => o.2 = (I, A) ∧ ((0 : Int) ≤ o.1.toInt ∧ o.1.toInt ≤ (1 : Int)) ∧ ((o.1.toInt = 1 → 0 ≤ x1.toInt ∧ x1.toInt ≤ 24575))) := by
  unfold f_isLegal_0
  exact t_isLegal_4    hI hA mFuel x1 (0 : Int32) (0 : Int32)  (by decide) (by decide) (by have z0 : (0 : Int32).toInt = 0 := rfl; have z1 : (0 : Int32).toInt = 0 := rfl; omega) (by show _ < ((200000 : Nat) : Int); have z0 : (0 : Int32).toInt = 0 := rfl; have z1 : (0 : Int32).toInt = 0 := rfl; omega)
theorem t_isLegal  {I : Nat → Int32} {A : Nat → Nat → Int32} {x1 : Int32} (hI : TJ I) (hA : TK A) : Ok (f_isLegal x1 I A) (fun o => o.2 = (I, A) ∧ ((0 : Int) ≤ o.1.toInt ∧ o.1.toInt ≤ (1 : Int)) ∧ ((o.1.toInt = 1 → 0 ≤ x1.toInt ∧ x1.toInt ≤ 24575))) := t_isLegal_0  hI hA 
theorem t_signs_33s  {I : Nat → Int32} {A : Nat → Nat → Int32} {self33 : Int32 → (Nat → Int32) → (Nat → Nat → Int32) → Option (Int32 × MS)} {N33 : Nat} (hself33 : ∀ (x2 : Int32) (I : Nat → Int32) (A : Nat → Nat → Int32), TJ I → TK A → ((0 : Int) ≤ x2.toInt ∧ x2.toInt ≤ (16 : Int)) → ((I 29).toInt ≤ 1999) → (17 - x2.toInt) < (N33 : Int) → Ok (self33 x2 I A) (fun o => TJ o.2.1 ∧ TK o.2.2 ∧ ((0 : Int) ≤ o.1.toInt ∧ o.1.toInt ≤ (80000 : Int)) ∧ ((o.2.1 29).toInt ≤ 1999))) {x2 : Int32} (hI : TJ I) (hA : TK A) (r_x2 : (0 : Int) ≤ x2.toInt ∧ x2.toInt ≤ (16 : Int)) (q0 : (I 29).toInt ≤ 1999) (m33 : (17 - x2.toInt) ≤ (N33 : Int)) : Ok (f_signs_33s self33 x2 I A) (fun o => TJ o.2.1 ∧ TK o.2.2 ∧ ((0 : Int) ≤ o.1.toInt ∧ o.1.toInt ≤ (80000 : Int)) ∧ ((o.2.1 29).toInt ≤ 1999)) := by
  unfold f_signs_33s
  have b_I_29 := tI_29 hI
  have b_I_36 := tI_36 hI
  have b_I_0 := tI_0 hI
  refine ok_if (fun c54 => ?_) (fun c54 => ?_)
  ·
    replace c54 := ti_leP c54 rfl rfl
    refine ok_bnd (fun I1 e55 => ?_)
    have hI_I1 : TJ I1 := e55.symm ▸ tj_u hI (k := 3) (show (0 : Int) ≤ (I 36).toInt from (by omega)) (show (I 36).toInt ≤ (80000 : Int) from (by omega))
    have : (I1 29).toInt = (I 29).toInt := by rw [e55]; rfl
    have : (I1 36).toInt = (I 36).toInt := by rw [e55]; rfl
    have : (I1 0).toInt = (I 0).toInt := by rw [e55]; rfl
    have b_I1_3 := tI_3 hI_I1
    exact ok_ret ⟨hI_I1, hA, (show (0 : Int) ≤ (I1 3).toInt ∧ (I1 3).toInt ≤ (80000 : Int) from (by omega)), (by show (I1 29).toInt ≤ 1999; omega)⟩
  ·
    replace c54 := ti_leN c54 rfl rfl
    refine ok_chk (ti_in (by omega) (by omega)) ?_
    refine ok_bnd (fun v2 e56 => ?_)
    have b_v2 := tA_35 hA ((x2).toNatClampNeg)
    rw [← e56] at b_v2
    refine ok_chk (ti_in (by omega) (by omega)) ?_
    refine ok_bnd (fun A3 e57 => ?_)
    have hA_A3 : TK A3 := e57.symm ▸ tk_n hA rfl
    refine ok_bnd (fun v4 e58 => ?_)
    have t_v4 : v4.toInt = x2.toInt + 1 := ti_add e58 rfl (show (1 : Int32).toInt = 1 from rfl) (by omega) (by omega)
    exact hself33 v4 I A3 hI hA_A3 (by omega) q0 (by omega)
theorem t_signs_33   : ∀ (n : Nat) (x2 : Int32) (I : Nat → Int32) (A : Nat → Nat → Int32), TJ I → TK A → ((0 : Int) ≤ x2.toInt ∧ x2.toInt ≤ (16 : Int)) → ((I 29).toInt ≤ 1999) → (17 - x2.toInt) < (n : Int) → Ok (f_signs_33  n x2 I A) (fun o => TJ o.2.1 ∧ TK o.2.2 ∧ ((0 : Int) ≤ o.1.toInt ∧ o.1.toInt ≤ (80000 : Int)) ∧ ((o.2.1 29).toInt ≤ 1999)) := by
  intro n
  induction n with
  | zero => intro x2 I A hI hA g0 g1  hm; exfalso; omega
  | succ n ih =>
    intro x2 I A hI hA g0 g1  hm
    exact t_signs_33s   (N33 := n)  ih hI hA g0 g1  (by omega)
theorem t_signs_14  {I : Nat → Int32} {A : Nat → Nat → Int32} {x1 : Int32} {t0 : Int32} (hI : TJ I) (hA : TK A) (r_t0 : (0 : Int) ≤ t0.toInt ∧ t0.toInt ≤ (1 : Int)) (q0 : (I 29).toInt ≤ 1999) (q1 : t0.toInt = 0 → 0 ≤ x1.toInt ∧ x1.toInt ≤ 24575) : Ok (f_signs_14 x1 t0 I A) (fun o => TJ o.2.1 ∧ TK o.2.2 ∧ ((0 : Int) ≤ o.1.toInt ∧ o.1.toInt ≤ (80000 : Int)) ∧ ((o.2.1 29).toInt ≤ 1999)) := by
  unfold f_signs_14
  have b_I_29 := tI_29 hI
  have b_I_36 := tI_36 hI
  have b_I_0 := tI_0 hI
  refine ok_bnd (fun I1 e59 => ?_)
  have hI_I1 : TJ I1 := e59.symm ▸ tj_u hI (k := 0) (show (0 : Int) ≤ t0.toInt from (by omega)) (show t0.toInt ≤ (2 : Int) from (by omega))
  have : (I1 29).toInt = (I 29).toInt := by rw [e59]; rfl
  have : (I1 36).toInt = (I 36).toInt := by rw [e59]; rfl
  have : (I1 0).toInt = t0.toInt := by rw [e59]; exact rfl
  have b_I1_0 := tI_0 hI_I1
  refine ok_if (fun c60 => ?_) (fun c60 => ?_)
  ·
    replace c60 := ti_leP c60 rfl (show (0 : Int32).toInt = 0 from rfl)
    have b_I1_29 := tI_29 hI_I1
    obtain ⟨⟨r2, Ic2, Ac2⟩, h_r2, hI_Ic2, hA_Ac2, p_r2_0, p_r2_1⟩ := t_spellWhole (x1 := x1)  hI_I1 hA (by omega) (by omega)
    replace hI_Ic2 : TJ Ic2 := hI_Ic2
    replace hA_Ac2 : TK Ac2 := hA_Ac2
    dsimp only at p_r2_0 p_r2_1
    refine ok_clR h_r2 ?_
    have f_r2 := fw_spellWhole h_r2
    have : (Ic2 0).toInt = (I1 0).toInt := congrArg Int32.toInt (f_r2.1 0 (by decide))
    have b_Ic2_29 := tI_29 hI_Ic2
    exact t_signs_33     mFuel (0 : Int32) Ic2 Ac2 hI_Ic2 hA_Ac2 (by decide) (by have z0 : (0 : Int32).toInt = 0 := rfl; omega) (by show _ < ((200000 : Nat) : Int); have z0 : (0 : Int32).toInt = 0 := rfl; omega)
  ·
    replace c60 := ti_leN c60 rfl (show (0 : Int32).toInt = 0 from rfl)
    exact ok_ret ⟨hI_I1, hA, (show (0 : Int) ≤ (0 : Int32).toInt ∧ (0 : Int32).toInt ≤ (80000 : Int) from (by decide)), (by show (I1 29).toInt ≤ 1999; have z : (0 : Int32).toInt = 0 := rfl; omega)⟩
theorem t_signs_0  {I : Nat → Int32} {A : Nat → Nat → Int32} {x1 : Int32} (hI : TJ I) (hA : TK A) (q0 : (I 29).toInt ≤ 1999) : Ok (f_signs_0 x1 I A) (fun o => TJ o.2.1 ∧ TK o.2.2 ∧ ((0 : Int) ≤ o.1.toInt ∧ o.1.toInt ≤ (80000 : Int)) ∧ ((o.2.1 29).toInt ≤ 1999)) := by
  unfold f_signs_0
  have b_I_29 := tI_29 hI
  have b_I_36 := tI_36 hI
  have b_I_0 := tI_0 hI
  obtain ⟨r1, h_r1, p_r1⟩ := ro (t_isLegal (x1 := x1)  hI hA )
  refine ok_clR h_r1 ?_
  dsimp only at p_r1
  refine ok_if (fun c61 => ?_) (fun c61 => ?_)
  ·
    replace c61 := ti_eqP c61 rfl (show (0 : Int32).toInt = 0 from rfl)
    exact t_signs_14    (x1 := x1) (t0 := (1 : Int32)) hI hA (by decide) q0 (by have z0 : (1 : Int32).toInt = 1 := rfl; omega)
  ·
    replace c61 := ti_eqN c61 rfl (show (0 : Int32).toInt = 0 from rfl)
    exact t_signs_14    (x1 := x1) (t0 := (0 : Int32)) hI hA (by decide) q0 (by have z0 : (0 : Int32).toInt = 0 := rfl; omega)
theorem t_signs  {I : Nat → Int32} {A : Nat → Nat → Int32} {x1 : Int32} (hI : TJ I) (hA : TK A) (q0 : (I 29).toInt ≤ 1999) : Ok (f_signs x1 I A) (fun o => TJ o.2.1 ∧ TK o.2.2 ∧ ((0 : Int) ≤ o.1.toInt ∧ o.1.toInt ≤ (80000 : Int)) ∧ ((o.2.1 29).toInt ≤ 1999)) := t_signs_0  hI hA q0
theorem t_out_0  {I : Nat → Int32} {A : Nat → Nat → Int32} {x1 : Int32} (hI : TJ I) (hA : TK A) : Ok (f_out_0 x1 I A) (fun o => TJ o.2.1 ∧ TK o.2.2 ∧ ((0 : Int) ≤ o.1.toInt ∧ o.1.toInt ≤ (65535 : Int))) := by
  unfold f_out_0
  have b_I_3 := tI_3 hI
  refine ok_bnd (fun I1 e62 => ?_)
  have hI_I1 : TJ I1 := e62.symm ▸ tj_u hI (k := 0) (show (0 : Int) ≤ (0 : Int32).toInt from (by decide)) (show (0 : Int32).toInt ≤ (2 : Int) from (by decide))
  have : (I1 3).toInt = (I 3).toInt := by rw [e62]; rfl
  refine ok_if (fun c63 => ?_) (fun c63 => ?_)
  ·
    replace c63 := ti_ltP c63 rfl (show (0 : Int32).toInt = 0 from rfl)
    unfold f_out_17
    unfold f_out_27
    exact ok_ret ⟨hI_I1, hA, (show (0 : Int) ≤ (0 : Int32).toInt ∧ (0 : Int32).toInt ≤ (65535 : Int) from (by decide))⟩
  ·
    replace c63 := ti_ltN c63 rfl (show (0 : Int32).toInt = 0 from rfl)
    have b_I1_3 := tI_3 hI_I1
    refine ok_if (fun c64 => ?_) (fun c64 => ?_)
    ·
      replace c64 := ti_ltP c64 rfl rfl
      refine ok_chk (ti_in (by omega) (by omega)) ?_
      refine ok_bnd (fun v2 e65 => ?_)
      have b_v2 := tA_4 hA ((x1).toNatClampNeg)
      rw [← e65] at b_v2
      unfold f_out_27
      exact ok_ret ⟨hI_I1, hA, (show (0 : Int) ≤ v2.toInt ∧ v2.toInt ≤ (65535 : Int) from (by omega))⟩
    ·
      replace c64 := ti_ltN c64 rfl rfl
      unfold f_out_17
      unfold f_out_27
      exact ok_ret ⟨hI_I1, hA, (show (0 : Int) ≤ (0 : Int32).toInt ∧ (0 : Int32).toInt ≤ (65535 : Int) from (by decide))⟩
theorem t_out  {I : Nat → Int32} {A : Nat → Nat → Int32} {x1 : Int32} (hI : TJ I) (hA : TK A) : Ok (f_out x1 I A) (fun o => TJ o.2.1 ∧ TK o.2.2 ∧ ((0 : Int) ≤ o.1.toInt ∧ o.1.toInt ≤ (65535 : Int))) := t_out_0  hI hA 
theorem t_isNode_0  {I : Nat → Int32} {A : Nat → Nat → Int32} {x1 : Int32} (hI : TJ I) (hA : TK A) : Ok (f_isNode_0 x1 I A) (fun o => o.2 = (I, A) ∧ ((0 : Int) ≤ o.1.toInt ∧ o.1.toInt ≤ (1 : Int)) ∧ ((o.1.toInt = 1 → 0 ≤ x1.toInt ∧ x1.toInt ≤ (A 7 ((I 5)).toNatClampNeg).toInt))) := by
  unfold f_isNode_0
  refine ok_if (fun c66 => ?_) (fun c66 => ?_)
  ·
    replace c66 := ti_ltP c66 rfl (show (0 : Int32).toInt = 0 from rfl)
    unfold f_isNode_21
    unfold f_isNode_22
    refine ok_chk (by decide) ?_
    exact ok_ret ⟨rfl, (show (0 : Int) ≤ (0 : Int32).toInt ∧ (0 : Int32).toInt ≤ (1 : Int) from (by decide)), (by show ((0 : Int32).toInt = 1 → 0 ≤ x1.toInt ∧ x1.toInt ≤ (A 7 ((I 5)).toNatClampNeg).toInt); exact fun h => absurd h (by decide))⟩
  ·
    replace c66 := ti_ltN c66 rfl (show (0 : Int32).toInt = 0 from rfl)
    have b_I_5 := tI_5 hI
    refine ok_chk (ti_in (by omega) (by omega)) ?_
    refine ok_bnd (fun v1 e67 => ?_)
    have b_v1 := tA_7 hA (((I 5)).toNatClampNeg)
    rw [← e67] at b_v1
    have w1 : (A 7 ((I 5)).toNatClampNeg).toInt = v1.toInt := by rw [e67]
    refine ok_if (fun c68 => ?_) (fun c68 => ?_)
    ·
      replace c68 := ti_ltP c68 rfl rfl
      unfold f_isNode_21
      unfold f_isNode_22
      refine ok_chk (by decide) ?_
      exact ok_ret ⟨rfl, (show (0 : Int) ≤ (0 : Int32).toInt ∧ (0 : Int32).toInt ≤ (1 : Int) from (by decide)), (by show ((0 : Int32).toInt = 1 → 0 ≤ x1.toInt ∧ x1.toInt ≤ (A 7 ((I 5)).toNatClampNeg).toInt); exact fun h => absurd h (by decide))⟩
    ·
      replace c68 := ti_ltN c68 rfl rfl
      unfold f_isNode_22
      refine ok_chk (by decide) ?_
      exact ok_ret ⟨rfl, (show (0 : Int) ≤ (1 : Int32).toInt ∧ (1 : Int32).toInt ≤ (1 : Int) from (by decide)), (by show ((1 : Int32).toInt = 1 → 0 ≤ x1.toInt ∧ x1.toInt ≤ (A 7 ((I 5)).toNatClampNeg).toInt); omega)⟩
theorem t_isNode  {I : Nat → Int32} {A : Nat → Nat → Int32} {x1 : Int32} (hI : TJ I) (hA : TK A) : Ok (f_isNode x1 I A) (fun o => o.2 = (I, A) ∧ ((0 : Int) ≤ o.1.toInt ∧ o.1.toInt ≤ (1 : Int)) ∧ ((o.1.toInt = 1 → 0 ≤ x1.toInt ∧ x1.toInt ≤ (A 7 ((I 5)).toNatClampNeg).toInt))) := t_isNode_0  hI hA 
theorem t_nodes_0  {I : Nat → Int32} {A : Nat → Nat → Int32} (hI : TJ I) (hA : TK A) : Ok (f_nodes_0 I A) (fun o => TJ o.2.1 ∧ TK o.2.2 ∧ ((0 : Int) ≤ o.1.toInt ∧ o.1.toInt ≤ (300 : Int))) := by
  unfold f_nodes_0
  have b_I_5 := tI_5 hI
  refine ok_bnd (fun I1 e69 => ?_)
  have hI_I1 : TJ I1 := e69.symm ▸ tj_u hI (k := 0) (show (0 : Int) ≤ (0 : Int32).toInt from (by decide)) (show (0 : Int32).toInt ≤ (2 : Int) from (by decide))
  have : (I1 5).toInt = (I 5).toInt := by rw [e69]; rfl
  have b_I1_5 := tI_5 hI_I1
  refine ok_chk (ti_in (by omega) (by omega)) ?_
  refine ok_bnd (fun v2 e70 => ?_)
  have b_v2 := tA_7 hA (((I1 5)).toNatClampNeg)
  rw [← e70] at b_v2
  exact ok_ret ⟨hI_I1, hA, (show (0 : Int) ≤ v2.toInt ∧ v2.toInt ≤ (300 : Int) from (by omega))⟩
theorem t_nodes  {I : Nat → Int32} {A : Nat → Nat → Int32}  (hI : TJ I) (hA : TK A) : Ok (f_nodes  I A) (fun o => TJ o.2.1 ∧ TK o.2.2 ∧ ((0 : Int) ≤ o.1.toInt ∧ o.1.toInt ≤ (300 : Int))) := t_nodes_0  hI hA 
theorem t_node_23  {I : Nat → Int32} {A : Nat → Nat → Int32} {x1 : Int32} {x2 : Int32} {t0 : Int32} (hI : TJ I) (hA : TK A) (r_t0 : (0 : Int) ≤ t0.toInt ∧ t0.toInt ≤ (1 : Int)) (q0 : t0.toInt = 0 → 0 ≤ x1.toInt ∧ x1.toInt ≤ 300) : Ok (f_node_23 x1 x2 t0 I A) (fun o => TJ o.2.1 ∧ TK o.2.2 ∧ True) := by
  unfold f_node_23
  have b_I_5 := tI_5 hI
  have b_I_0 := tI_0 hI
  refine ok_bnd (fun I1 e71 => ?_)
  have hI_I1 : TJ I1 := e71.symm ▸ tj_u hI (k := 0) (show (0 : Int) ≤ t0.toInt from (by omega)) (show t0.toInt ≤ (2 : Int) from (by omega))
  have : (I1 5).toInt = (I 5).toInt := by rw [e71]; rfl
  have : (I1 0).toInt = t0.toInt := by rw [e71]; exact rfl
  have b_I1_0 := tI_0 hI_I1
  refine ok_if (fun c72 => ?_) (fun c72 => ?_)
  ·
    replace c72 := ti_leP c72 rfl (show (0 : Int32).toInt = 0 from rfl)
    refine ok_bnd (fun v2 e73 => ?_)
    have b_I1_5 := tI_5 hI_I1
    have t_v2 : v2.toInt = 301 * (I1 5).toInt := ti_mul e73 (show (301 : Int32).toInt = 301 from rfl) rfl (by omega) (by omega)
    refine ok_bnd (fun v3 e74 => ?_)
    have t_v3 : v3.toInt = v2.toInt + x1.toInt := ti_add e74 rfl rfl (by omega) (by omega)
    refine ok_if (fun c75 => ?_) (fun c75 => ?_)
    ·
      replace c75 := ti_eqP c75 rfl (show (0 : Int32).toInt = 0 from rfl)
      refine ok_chk (ti_in (by omega) (by omega)) ?_
      refine ok_bnd (fun v4 e76 => ?_)
      have b_v4 := tA_8 hA ((v3).toNatClampNeg)
      rw [← e76] at b_v4
      exact ok_ret ⟨hI_I1, hA, trivial⟩
    ·
      replace c75 := ti_eqN c75 rfl (show (0 : Int32).toInt = 0 from rfl)
      refine ok_if (fun c77 => ?_) (fun c77 => ?_)
      ·
        replace c77 := ti_eqP c77 rfl (show (1 : Int32).toInt = 1 from rfl)
        refine ok_chk (ti_in (by omega) (by omega)) ?_
        refine ok_bnd (fun v5 e78 => ?_)
        have b_v5 := tA_9 hA ((v3).toNatClampNeg)
        rw [← e78] at b_v5
        exact ok_ret ⟨hI_I1, hA, trivial⟩
      ·
        replace c77 := ti_eqN c77 rfl (show (1 : Int32).toInt = 1 from rfl)
        refine ok_if (fun c79 => ?_) (fun c79 => ?_)
        ·
          replace c79 := ti_eqP c79 rfl (show (2 : Int32).toInt = 2 from rfl)
          refine ok_chk (ti_in (by omega) (by omega)) ?_
          refine ok_bnd (fun v6 e80 => ?_)
          have b_v6 := tA_10 hA ((v3).toNatClampNeg)
          rw [← e80] at b_v6
          exact ok_ret ⟨hI_I1, hA, trivial⟩
        ·
          replace c79 := ti_eqN c79 rfl (show (2 : Int32).toInt = 2 from rfl)
          refine ok_if (fun c81 => ?_) (fun c81 => ?_)
          ·
            replace c81 := ti_eqP c81 rfl (show (3 : Int32).toInt = 3 from rfl)
            refine ok_chk (ti_in (by omega) (by omega)) ?_
            refine ok_bnd (fun v7 e82 => ?_)
            have b_v7 := tA_11 hA ((v3).toNatClampNeg)
            rw [← e82] at b_v7
            exact ok_ret ⟨hI_I1, hA, trivial⟩
          ·
            replace c81 := ti_eqN c81 rfl (show (3 : Int32).toInt = 3 from rfl)
            refine ok_if (fun c83 => ?_) (fun c83 => ?_)
            ·
              replace c83 := ti_eqP c83 rfl (show (4 : Int32).toInt = 4 from rfl)
              refine ok_chk (ti_in (by omega) (by omega)) ?_
              refine ok_bnd (fun v8 e84 => ?_)
              have b_v8 := tA_12 hA ((v3).toNatClampNeg)
              rw [← e84] at b_v8
              exact ok_ret ⟨hI_I1, hA, trivial⟩
            ·
              replace c83 := ti_eqN c83 rfl (show (4 : Int32).toInt = 4 from rfl)
              refine ok_chk (ti_in (by omega) (by omega)) ?_
              refine ok_bnd (fun v9 e85 => ?_)
              have b_v9 := tA_14 hA ((v3).toNatClampNeg)
              rw [← e85] at b_v9
              exact ok_ret ⟨hI_I1, hA, trivial⟩
  ·
    replace c72 := ti_leN c72 rfl (show (0 : Int32).toInt = 0 from rfl)
    exact ok_ret ⟨hI_I1, hA, trivial⟩
theorem t_node_0  {I : Nat → Int32} {A : Nat → Nat → Int32} {x1 : Int32} {x2 : Int32} (hI : TJ I) (hA : TK A) : Ok (f_node_0 x1 x2 I A) (fun o => TJ o.2.1 ∧ TK o.2.2 ∧ True) := by
  unfold f_node_0
  have b_I_5 := tI_5 hI
  have b_I_0 := tI_0 hI
  obtain ⟨r1, h_r1, p_r1⟩ := ro (t_isNode (x1 := x1)  hI hA )
  refine ok_clR h_r1 ?_
  dsimp only at p_r1
  have w1 := tA_7 hA ((I 5)).toNatClampNeg
  refine ok_if (fun c86 => ?_) (fun c86 => ?_)
  ·
    replace c86 := ti_eqP c86 rfl (show (0 : Int32).toInt = 0 from rfl)
    unfold f_node_18
    exact t_node_23    (x1 := x1) (x2 := x2) (t0 := (1 : Int32)) hI hA (by decide) (by have z0 : (1 : Int32).toInt = 1 := rfl; omega)
  ·
    replace c86 := ti_eqN c86 rfl (show (0 : Int32).toInt = 0 from rfl)
    refine ok_if (fun c87 => ?_) (fun c87 => ?_)
    ·
      replace c87 := ti_ltP c87 rfl (show (0 : Int32).toInt = 0 from rfl)
      unfold f_node_18
      exact t_node_23    (x1 := x1) (x2 := x2) (t0 := (1 : Int32)) hI hA (by decide) (by have z0 : (1 : Int32).toInt = 1 := rfl; omega)
    ·
      replace c87 := ti_ltN c87 rfl (show (0 : Int32).toInt = 0 from rfl)
      refine ok_if (fun c88 => ?_) (fun c88 => ?_)
      ·
        replace c88 := ti_leP c88 rfl (show (5 : Int32).toInt = 5 from rfl)
        exact t_node_23    (x1 := x1) (x2 := x2) (t0 := (0 : Int32)) hI hA (by decide) (by have z0 : (0 : Int32).toInt = 0 := rfl; omega)
      ·
        replace c88 := ti_leN c88 rfl (show (5 : Int32).toInt = 5 from rfl)
        unfold f_node_18
        exact t_node_23    (x1 := x1) (x2 := x2) (t0 := (1 : Int32)) hI hA (by decide) (by have z0 : (1 : Int32).toInt = 1 := rfl; omega)
theorem t_node  {I : Nat → Int32} {A : Nat → Nat → Int32} {x1 : Int32} {x2 : Int32} (hI : TJ I) (hA : TK A) : Ok (f_node x1 x2 I A) (fun o => TJ o.2.1 ∧ TK o.2.2 ∧ True) := t_node_0  hI hA 
theorem t_mark_37  {I : Nat → Int32} {A : Nat → Nat → Int32} {x1 : Int32} {x2 : Int32} {t0 : Int32} (hI : TJ I) (hA : TK A) (r_t0 : (0 : Int) ≤ t0.toInt ∧ t0.toInt ≤ (1 : Int)) (q0 : t0.toInt = 0 → 0 ≤ x1.toInt ∧ x1.toInt ≤ 300 ∧ 0 ≤ x2.toInt ∧ x2.toInt ≤ 3) : Ok (f_mark_37 x1 x2 t0 I A) (fun o => TJ o.2.1 ∧ TK o.2.2 ∧ ((0 : Int) ≤ o.1.toInt ∧ o.1.toInt ≤ (255 : Int))) := by
  unfold f_mark_37
  have b_I_5 := tI_5 hI
  have b_I_0 := tI_0 hI
  refine ok_bnd (fun I1 e89 => ?_)
  have hI_I1 : TJ I1 := e89.symm ▸ tj_u hI (k := 0) (show (0 : Int) ≤ t0.toInt from (by omega)) (show t0.toInt ≤ (2 : Int) from (by omega))
  have : (I1 5).toInt = (I 5).toInt := by rw [e89]; rfl
  have : (I1 0).toInt = t0.toInt := by rw [e89]; exact rfl
  have b_I1_0 := tI_0 hI_I1
  refine ok_if (fun c90 => ?_) (fun c90 => ?_)
  ·
    replace c90 := ti_leP c90 rfl (show (0 : Int32).toInt = 0 from rfl)
    refine ok_bnd (fun v2 e91 => ?_)
    have b_I1_5 := tI_5 hI_I1
    have t_v2 : v2.toInt = 301 * (I1 5).toInt := ti_mul e91 (show (301 : Int32).toInt = 301 from rfl) rfl (by omega) (by omega)
    refine ok_bnd (fun v3 e92 => ?_)
    have t_v3 : v3.toInt = v2.toInt + x1.toInt := ti_add e92 rfl rfl (by omega) (by omega)
    refine ok_bnd (fun v4 e93 => ?_)
    have t_v4 : v4.toInt = 4 * v3.toInt := ti_mul e93 (show (4 : Int32).toInt = 4 from rfl) rfl (by omega) (by omega)
    refine ok_bnd (fun v5 e94 => ?_)
    have t_v5 : v5.toInt = v4.toInt + x2.toInt := ti_add e94 rfl rfl (by omega) (by omega)
    refine ok_chk (ti_in (by omega) (by omega)) ?_
    refine ok_bnd (fun v6 e95 => ?_)
    have b_v6 := tA_13 hA ((v5).toNatClampNeg)
    rw [← e95] at b_v6
    unfold f_mark_70
    exact ok_ret ⟨hI_I1, hA, (show (0 : Int) ≤ v6.toInt ∧ v6.toInt ≤ (255 : Int) from (by omega))⟩
  ·
    replace c90 := ti_leN c90 rfl (show (0 : Int32).toInt = 0 from rfl)
    unfold f_mark_70
    exact ok_ret ⟨hI_I1, hA, (show (0 : Int) ≤ (0 : Int32).toInt ∧ (0 : Int32).toInt ≤ (255 : Int) from (by decide))⟩
theorem t_mark_0  {I : Nat → Int32} {A : Nat → Nat → Int32} {x1 : Int32} {x2 : Int32} (hI : TJ I) (hA : TK A) : Ok (f_mark_0 x1 x2 I A) (fun o => TJ o.2.1 ∧ TK o.2.2 ∧ ((0 : Int) ≤ o.1.toInt ∧ o.1.toInt ≤ (255 : Int))) := by
  unfold f_mark_0
  have b_I_5 := tI_5 hI
  have b_I_0 := tI_0 hI
  obtain ⟨r1, h_r1, p_r1⟩ := ro (t_isNode (x1 := x1)  hI hA )
  refine ok_clR h_r1 ?_
  dsimp only at p_r1
  have w1 := tA_7 hA ((I 5)).toNatClampNeg
  refine ok_if (fun c96 => ?_) (fun c96 => ?_)
  ·
    replace c96 := ti_eqP c96 rfl (show (0 : Int32).toInt = 0 from rfl)
    unfold f_mark_32
    exact t_mark_37    (x1 := x1) (x2 := x2) (t0 := (1 : Int32)) hI hA (by decide) (by have z0 : (1 : Int32).toInt = 1 := rfl; omega)
  ·
    replace c96 := ti_eqN c96 rfl (show (0 : Int32).toInt = 0 from rfl)
    refine ok_if (fun c97 => ?_) (fun c97 => ?_)
    ·
      replace c97 := ti_ltP c97 rfl (show (0 : Int32).toInt = 0 from rfl)
      unfold f_mark_32
      exact t_mark_37    (x1 := x1) (x2 := x2) (t0 := (1 : Int32)) hI hA (by decide) (by have z0 : (1 : Int32).toInt = 1 := rfl; omega)
    ·
      replace c97 := ti_ltN c97 rfl (show (0 : Int32).toInt = 0 from rfl)
      refine ok_bnd (fun v2 e98 => ?_)
      have t_v2 : v2.toInt = 301 * (I 5).toInt := ti_mul e98 (show (301 : Int32).toInt = 301 from rfl) rfl (by omega) (by omega)
      refine ok_bnd (fun v3 e99 => ?_)
      have t_v3 : v3.toInt = v2.toInt + x1.toInt := ti_add e99 rfl rfl (by omega) (by omega)
      refine ok_chk (ti_in (by omega) (by omega)) ?_
      refine ok_bnd (fun v4 e100 => ?_)
      have b_v4 := tA_12 hA ((v3).toNatClampNeg)
      rw [← e100] at b_v4
      refine ok_if (fun c101 => ?_) (fun c101 => ?_)
      ·
        replace c101 := ti_ltP c101 rfl rfl
        exact t_mark_37    (x1 := x1) (x2 := x2) (t0 := (0 : Int32)) hI hA (by decide) (by have z0 : (0 : Int32).toInt = 0 := rfl; omega)
      ·
        replace c101 := ti_ltN c101 rfl rfl
        unfold f_mark_32
        exact t_mark_37    (x1 := x1) (x2 := x2) (t0 := (1 : Int32)) hI hA (by decide) (by have z0 : (1 : Int32).toInt = 1 := rfl; omega)
theorem t_mark  {I : Nat → Int32} {A : Nat → Nat → Int32} {x1 : Int32} {x2 : Int32} (hI : TJ I) (hA : TK A) : Ok (f_mark x1 x2 I A) (fun o => TJ o.2.1 ∧ TK o.2.2 ∧ ((0 : Int) ≤ o.1.toInt ∧ o.1.toInt ≤ (255 : Int))) := t_mark_0  hI hA 
theorem t_remark_37  {I : Nat → Int32} {A : Nat → Nat → Int32} {x1 : Int32} {x2 : Int32} {t0 : Int32} (hI : TJ I) (hA : TK A) (r_t0 : (0 : Int) ≤ t0.toInt ∧ t0.toInt ≤ (1 : Int)) (q0 : t0.toInt = 0 → 0 ≤ x1.toInt ∧ x1.toInt ≤ 300 ∧ 0 ≤ x2.toInt ∧ x2.toInt ≤ 199) : Ok (f_remark_37 x1 x2 t0 I A) (fun o => TJ o.2.1 ∧ TK o.2.2 ∧ ((0 : Int) ≤ o.1.toInt ∧ o.1.toInt ≤ (65535 : Int))) := by
  unfold f_remark_37
  have b_I_5 := tI_5 hI
  have b_I_0 := tI_0 hI
  refine ok_bnd (fun I1 e102 => ?_)
  have hI_I1 : TJ I1 := e102.symm ▸ tj_u hI (k := 0) (show (0 : Int) ≤ t0.toInt from (by omega)) (show t0.toInt ≤ (2 : Int) from (by omega))
  have : (I1 5).toInt = (I 5).toInt := by rw [e102]; rfl
  have : (I1 0).toInt = t0.toInt := by rw [e102]; exact rfl
  have b_I1_0 := tI_0 hI_I1
  refine ok_if (fun c103 => ?_) (fun c103 => ?_)
  ·
    replace c103 := ti_leP c103 rfl (show (0 : Int32).toInt = 0 from rfl)
    refine ok_bnd (fun v2 e104 => ?_)
    have b_I1_5 := tI_5 hI_I1
    have t_v2 : v2.toInt = 301 * (I1 5).toInt := ti_mul e104 (show (301 : Int32).toInt = 301 from rfl) rfl (by omega) (by omega)
    refine ok_bnd (fun v3 e105 => ?_)
    have t_v3 : v3.toInt = v2.toInt + x1.toInt := ti_add e105 rfl rfl (by omega) (by omega)
    refine ok_bnd (fun v4 e106 => ?_)
    have t_v4 : v4.toInt = 200 * v3.toInt := ti_mul e106 (show (200 : Int32).toInt = 200 from rfl) rfl (by omega) (by omega)
    refine ok_bnd (fun v5 e107 => ?_)
    have t_v5 : v5.toInt = v4.toInt + x2.toInt := ti_add e107 rfl rfl (by omega) (by omega)
    refine ok_chk (ti_in (by omega) (by omega)) ?_
    refine ok_bnd (fun v6 e108 => ?_)
    have b_v6 := tA_15 hA ((v5).toNatClampNeg)
    rw [← e108] at b_v6
    unfold f_remark_72
    exact ok_ret ⟨hI_I1, hA, (show (0 : Int) ≤ v6.toInt ∧ v6.toInt ≤ (65535 : Int) from (by omega))⟩
  ·
    replace c103 := ti_leN c103 rfl (show (0 : Int32).toInt = 0 from rfl)
    unfold f_remark_72
    exact ok_ret ⟨hI_I1, hA, (show (0 : Int) ≤ (0 : Int32).toInt ∧ (0 : Int32).toInt ≤ (65535 : Int) from (by decide))⟩
theorem t_remark_0  {I : Nat → Int32} {A : Nat → Nat → Int32} {x1 : Int32} {x2 : Int32} (hI : TJ I) (hA : TK A) : Ok (f_remark_0 x1 x2 I A) (fun o => TJ o.2.1 ∧ TK o.2.2 ∧ ((0 : Int) ≤ o.1.toInt ∧ o.1.toInt ≤ (65535 : Int))) := by
  unfold f_remark_0
  have b_I_5 := tI_5 hI
  have b_I_0 := tI_0 hI
  obtain ⟨r1, h_r1, p_r1⟩ := ro (t_isNode (x1 := x1)  hI hA )
  refine ok_clR h_r1 ?_
  dsimp only at p_r1
  have w1 := tA_7 hA ((I 5)).toNatClampNeg
  refine ok_if (fun c109 => ?_) (fun c109 => ?_)
  ·
    replace c109 := ti_eqP c109 rfl (show (0 : Int32).toInt = 0 from rfl)
    unfold f_remark_32
    exact t_remark_37    (x1 := x1) (x2 := x2) (t0 := (1 : Int32)) hI hA (by decide) (by have z0 : (1 : Int32).toInt = 1 := rfl; omega)
  ·
    replace c109 := ti_eqN c109 rfl (show (0 : Int32).toInt = 0 from rfl)
    refine ok_if (fun c110 => ?_) (fun c110 => ?_)
    ·
      replace c110 := ti_ltP c110 rfl (show (0 : Int32).toInt = 0 from rfl)
      unfold f_remark_32
      exact t_remark_37    (x1 := x1) (x2 := x2) (t0 := (1 : Int32)) hI hA (by decide) (by have z0 : (1 : Int32).toInt = 1 := rfl; omega)
    ·
      replace c110 := ti_ltN c110 rfl (show (0 : Int32).toInt = 0 from rfl)
      refine ok_bnd (fun v2 e111 => ?_)
      have t_v2 : v2.toInt = 301 * (I 5).toInt := ti_mul e111 (show (301 : Int32).toInt = 301 from rfl) rfl (by omega) (by omega)
      refine ok_bnd (fun v3 e112 => ?_)
      have t_v3 : v3.toInt = v2.toInt + x1.toInt := ti_add e112 rfl rfl (by omega) (by omega)
      refine ok_chk (ti_in (by omega) (by omega)) ?_
      refine ok_bnd (fun v4 e113 => ?_)
      have b_v4 := tA_14 hA ((v3).toNatClampNeg)
      rw [← e113] at b_v4
      refine ok_if (fun c114 => ?_) (fun c114 => ?_)
      ·
        replace c114 := ti_ltP c114 rfl rfl
        exact t_remark_37    (x1 := x1) (x2 := x2) (t0 := (0 : Int32)) hI hA (by decide) (by have z0 : (0 : Int32).toInt = 0 := rfl; omega)
      ·
        replace c114 := ti_ltN c114 rfl rfl
        unfold f_remark_32
        exact t_remark_37    (x1 := x1) (x2 := x2) (t0 := (1 : Int32)) hI hA (by decide) (by have z0 : (1 : Int32).toInt = 1 := rfl; omega)
theorem t_remark  {I : Nat → Int32} {A : Nat → Nat → Int32} {x1 : Int32} {x2 : Int32} (hI : TJ I) (hA : TK A) : Ok (f_remark x1 x2 I A) (fun o => TJ o.2.1 ∧ TK o.2.2 ∧ ((0 : Int) ≤ o.1.toInt ∧ o.1.toInt ≤ (65535 : Int))) := t_remark_0  hI hA 
theorem t_here_0  {I : Nat → Int32} {A : Nat → Nat → Int32} (hI : TJ I) (hA : TK A) : Ok (f_here_0 I A) (fun o => TJ o.2.1 ∧ TK o.2.2 ∧ ((0 : Int) ≤ o.1.toInt ∧ o.1.toInt ≤ (300 : Int))) := by
  unfold f_here_0
  have b_I_6 := tI_6 hI
  refine ok_bnd (fun I1 e115 => ?_)
  have hI_I1 : TJ I1 := e115.symm ▸ tj_u hI (k := 0) (show (0 : Int) ≤ (0 : Int32).toInt from (by decide)) (show (0 : Int32).toInt ≤ (2 : Int) from (by decide))
  have : (I1 6).toInt = (I 6).toInt := by rw [e115]; rfl
  have b_I1_6 := tI_6 hI_I1
  exact ok_ret ⟨hI_I1, hA, (show (0 : Int) ≤ (I1 6).toInt ∧ (I1 6).toInt ≤ (300 : Int) from (by omega))⟩
theorem t_here  {I : Nat → Int32} {A : Nat → Nat → Int32}  (hI : TJ I) (hA : TK A) : Ok (f_here  I A) (fun o => TJ o.2.1 ∧ TK o.2.2 ∧ ((0 : Int) ≤ o.1.toInt ∧ o.1.toInt ≤ (300 : Int))) := t_here_0  hI hA 
theorem t_man_16  {I : Nat → Int32} {A : Nat → Nat → Int32} {x1 : Int32} {t0 : Int32} (hI : TJ I) (hA : TK A) (r_t0 : (0 : Int) ≤ t0.toInt ∧ t0.toInt ≤ (1 : Int)) (q0 : t0.toInt = 0 → 0 ≤ x1.toInt ∧ x1.toInt ≤ 63) : Ok (f_man_16 x1 t0 I A) (fun o => TJ o.2.1 ∧ TK o.2.2 ∧ True) := by
  unfold f_man_16
  have b_I_0 := tI_0 hI
  refine ok_bnd (fun I1 e116 => ?_)
  have hI_I1 : TJ I1 := e116.symm ▸ tj_u hI (k := 0) (show (0 : Int) ≤ t0.toInt from (by omega)) (show t0.toInt ≤ (2 : Int) from (by omega))
  have : (I1 0).toInt = t0.toInt := by rw [e116]; exact rfl
  have b_I1_0 := tI_0 hI_I1
  refine ok_if (fun c117 => ?_) (fun c117 => ?_)
  ·
    replace c117 := ti_leP c117 rfl (show (0 : Int32).toInt = 0 from rfl)
    refine ok_chk (ti_in (by omega) (by omega)) ?_
    refine ok_bnd (fun v2 e118 => ?_)
    unfold f_man_36
    exact ok_ret ⟨hI_I1, hA, trivial⟩
  ·
    replace c117 := ti_leN c117 rfl (show (0 : Int32).toInt = 0 from rfl)
    unfold f_man_36
    exact ok_ret ⟨hI_I1, hA, trivial⟩
theorem t_man_0  {I : Nat → Int32} {A : Nat → Nat → Int32} {x1 : Int32} (hI : TJ I) (hA : TK A) : Ok (f_man_0 x1 I A) (fun o => TJ o.2.1 ∧ TK o.2.2 ∧ True) := by
  unfold f_man_0
  have b_I_0 := tI_0 hI
  refine ok_if (fun c119 => ?_) (fun c119 => ?_)
  ·
    replace c119 := ti_ltP c119 rfl (show (0 : Int32).toInt = 0 from rfl)
    unfold f_man_11
    exact t_man_16    (x1 := x1) (t0 := (1 : Int32)) hI hA (by decide) (by have z0 : (1 : Int32).toInt = 1 := rfl; omega)
  ·
    replace c119 := ti_ltN c119 rfl (show (0 : Int32).toInt = 0 from rfl)
    refine ok_if (fun c120 => ?_) (fun c120 => ?_)
    ·
      replace c120 := ti_leP c120 rfl (show (63 : Int32).toInt = 63 from rfl)
      exact t_man_16    (x1 := x1) (t0 := (0 : Int32)) hI hA (by decide) (by have z0 : (0 : Int32).toInt = 0 := rfl; omega)
    ·
      replace c120 := ti_leN c120 rfl (show (63 : Int32).toInt = 63 from rfl)
      unfold f_man_11
      exact t_man_16    (x1 := x1) (t0 := (1 : Int32)) hI hA (by decide) (by have z0 : (1 : Int32).toInt = 1 := rfl; omega)
theorem t_man  {I : Nat → Int32} {A : Nat → Nat → Int32} {x1 : Int32} (hI : TJ I) (hA : TK A) : Ok (f_man x1 I A) (fun o => TJ o.2.1 ∧ TK o.2.2 ∧ True) := t_man_0  hI hA 
theorem t_move_0  {I : Nat → Int32} {A : Nat → Nat → Int32} {x1 : Int32} (hI : TJ I) (hA : TK A) : Ok (f_move_0 x1 I A) (fun o => TJ o.2.1 ∧ TK o.2.2 ∧ ((-1 : Int) ≤ o.1.toInt ∧ o.1.toInt ≤ (24575 : Int))) := by
  unfold f_move_0
  have b_I_33 := tI_33 hI
  refine ok_bnd (fun I1 e121 => ?_)
  have hI_I1 : TJ I1 := e121.symm ▸ tj_u hI (k := 0) (show (0 : Int) ≤ (0 : Int32).toInt from (by decide)) (show (0 : Int32).toInt ≤ (2 : Int) from (by decide))
  have : (I1 33).toInt = (I 33).toInt := by rw [e121]; rfl
  refine ok_if (fun c122 => ?_) (fun c122 => ?_)
  ·
    replace c122 := ti_ltP c122 rfl (show (0 : Int32).toInt = 0 from rfl)
    unfold f_move_17
    unfold f_move_27
    exact ok_ret ⟨hI_I1, hA, (show (-1 : Int) ≤ (-1 : Int32).toInt ∧ (-1 : Int32).toInt ≤ (24575 : Int) from (by decide))⟩
  ·
    replace c122 := ti_ltN c122 rfl (show (0 : Int32).toInt = 0 from rfl)
    have b_I1_33 := tI_33 hI_I1
    refine ok_if (fun c123 => ?_) (fun c123 => ?_)
    ·
      replace c123 := ti_ltP c123 rfl rfl
      refine ok_chk (ti_in (by omega) (by omega)) ?_
      refine ok_bnd (fun v2 e124 => ?_)
      have b_v2 := tA_32 hA ((x1).toNatClampNeg)
      rw [← e124] at b_v2
      unfold f_move_27
      exact ok_ret ⟨hI_I1, hA, (show (-1 : Int) ≤ v2.toInt ∧ v2.toInt ≤ (24575 : Int) from (by omega))⟩
    ·
      replace c123 := ti_ltN c123 rfl rfl
      unfold f_move_17
      unfold f_move_27
      exact ok_ret ⟨hI_I1, hA, (show (-1 : Int) ≤ (-1 : Int32).toInt ∧ (-1 : Int32).toInt ≤ (24575 : Int) from (by decide))⟩
theorem t_move  {I : Nat → Int32} {A : Nat → Nat → Int32} {x1 : Int32} (hI : TJ I) (hA : TK A) : Ok (f_move x1 I A) (fun o => TJ o.2.1 ∧ TK o.2.2 ∧ ((-1 : Int) ≤ o.1.toInt ∧ o.1.toInt ≤ (24575 : Int))) := t_move_0  hI hA 
theorem t_addMark_50  {I : Nat → Int32} {A : Nat → Nat → Int32} {x1 : Int32} {t0 : Int32} (hI : TJ I) (hA : TK A) (r_t0 : (0 : Int) ≤ t0.toInt ∧ t0.toInt ≤ (2 : Int)) (q0 : t0.toInt = 0 → 0 ≤ x1.toInt ∧ x1.toInt ≤ 255) (q1 : t0.toInt = 0 → m3 A (I 5).toInt (I 6).toInt) : Ok (f_addMark_50 x1 t0 I A) (fun o => TJ o.2.1 ∧ TK o.2.2 ∧ ((0 : Int) ≤ o.1.toInt ∧ o.1.toInt ≤ (4 : Int))) := by
  unfold f_addMark_50
  have b_I_0 := tI_0 hI
  have b_I_5 := tI_5 hI
  have b_I_6 := tI_6 hI
  refine ok_bnd (fun I1 e125 => ?_)
  have hI_I1 : TJ I1 := e125.symm ▸ tj_u hI (k := 0) (show (0 : Int) ≤ t0.toInt from (by omega)) (show t0.toInt ≤ (2 : Int) from (by omega))
  have : (I1 0).toInt = t0.toInt := by rw [e125]; exact rfl
  have : (I1 5).toInt = (I 5).toInt := by rw [e125]; rfl
  have : (I1 6).toInt = (I 6).toInt := by rw [e125]; rfl
  have b_I1_0 := tI_0 hI_I1
  refine ok_if (fun c126 => ?_) (fun c126 => ?_)
  ·
    replace c126 := ti_leP c126 rfl (show (0 : Int32).toInt = 0 from rfl)
    have b_I1_5 := tI_5 hI_I1
    have b_I1_6 := tI_6 hI_I1
    obtain ⟨⟨r2, Ic2, Ac2⟩, h_r2, hI_Ic2, hA_Ac2, -⟩ := t_addMarkTo (x1 := (I1 5)) (x2 := (I1 6)) (x3 := x1)  hI_I1 hA (by omega) (by omega) (by omega) (by rw [e125]; exact q1 (by omega))
    replace hI_Ic2 : TJ Ic2 := hI_Ic2
    replace hA_Ac2 : TK Ac2 := hA_Ac2
    refine ok_clR h_r2 ?_
    have f_r2 := fw_addMarkTo h_r2
    have : (Ic2 0).toInt = (I1 0).toInt := congrArg Int32.toInt (f_r2.1 0 (by decide))
    have : (Ic2 5).toInt = (I1 5).toInt := congrArg Int32.toInt (f_r2.1 5 (by decide))
    have : (Ic2 6).toInt = (I1 6).toInt := congrArg Int32.toInt (f_r2.1 6 (by decide))
    refine ok_bnd (fun v3 e127 => ?_)
    have b_Ic2_5 := tI_5 hI_Ic2
    have t_v3 : v3.toInt = 301 * (Ic2 5).toInt := ti_mul e127 (show (301 : Int32).toInt = 301 from rfl) rfl (by omega) (by omega)
    refine ok_bnd (fun v4 e128 => ?_)
    have b_Ic2_6 := tI_6 hI_Ic2
    have t_v4 : v4.toInt = v3.toInt + (Ic2 6).toInt := ti_add e128 rfl rfl (by omega) (by omega)
    refine ok_chk (ti_in (by omega) (by omega)) ?_
    refine ok_bnd (fun v5 e129 => ?_)
    have b_v5 := tA_12 hA_Ac2 ((v4).toNatClampNeg)
    rw [← e129] at b_v5
    exact ok_ret ⟨hI_Ic2, hA_Ac2, (show (0 : Int) ≤ v5.toInt ∧ v5.toInt ≤ (4 : Int) from (by omega))⟩
  ·
    replace c126 := ti_leN c126 rfl (show (0 : Int32).toInt = 0 from rfl)
    exact ok_ret ⟨hI_I1, hA, (show (0 : Int) ≤ (0 : Int32).toInt ∧ (0 : Int32).toInt ≤ (4 : Int) from (by decide))⟩
theorem t_addMark_0  {I : Nat → Int32} {A : Nat → Nat → Int32} {x1 : Int32} (hI : TJ I) (hA : TK A) : Ok (f_addMark_0 x1 I A) (fun o => TJ o.2.1 ∧ TK o.2.2 ∧ ((0 : Int) ≤ o.1.toInt ∧ o.1.toInt ≤ (4 : Int))) := by
  unfold f_addMark_0
  have b_I_0 := tI_0 hI
  have b_I_5 := tI_5 hI
  have b_I_6 := tI_6 hI
  refine ok_if (fun c130 => ?_) (fun c130 => ?_)
  ·
    replace c130 := ti_ltP c130 rfl (show (0 : Int32).toInt = 0 from rfl)
    unfold f_addMark_12
    exact t_addMark_50    (x1 := x1) (t0 := (1 : Int32)) hI hA (by decide) (by have z0 : (1 : Int32).toInt = 1 := rfl; omega) (fun h => absurd h (by decide))
  ·
    replace c130 := ti_ltN c130 rfl (show (0 : Int32).toInt = 0 from rfl)
    refine ok_if (fun c131 => ?_) (fun c131 => ?_)
    ·
      replace c131 := ti_leP c131 rfl (show (255 : Int32).toInt = 255 from rfl)
      refine ok_if (fun c132 => ?_) (fun c132 => ?_)
      ·
        replace c132 := ti_eqP c132 rfl (show (0 : Int32).toInt = 0 from rfl)
        unfold f_addMark_45
        exact t_addMark_50    (x1 := x1) (t0 := (2 : Int32)) hI hA (by decide) (by have z0 : (2 : Int32).toInt = 2 := rfl; omega) (fun h => absurd h (by decide))
      ·
        replace c132 := ti_eqN c132 rfl (show (0 : Int32).toInt = 0 from rfl)
        refine ok_bnd (fun v1 e133 => ?_)
        have t_v1 : v1.toInt = 301 * (I 5).toInt := ti_mul e133 (show (301 : Int32).toInt = 301 from rfl) rfl (by omega) (by omega)
        refine ok_bnd (fun v2 e134 => ?_)
        have t_v2 : v2.toInt = v1.toInt + (I 6).toInt := ti_add e134 rfl rfl (by omega) (by omega)
        refine ok_chk (ti_in (by omega) (by omega)) ?_
        refine ok_bnd (fun v3 e135 => ?_)
        have b_v3 := tA_12 hA ((v2).toNatClampNeg)
        rw [← e135] at b_v3
        have i3 : v2.toNatClampNeg = (301 * (I 5).toInt + (I 6).toInt).toNat := by have := ti_nc (a := v2) (by omega); omega
        have j3 : (A 12 (301 * (I 5).toInt + (I 6).toInt).toNat).toInt = v3.toInt := by rw [e135, i3]
        refine ok_if (fun c136 => ?_) (fun c136 => ?_)
        ·
          replace c136 := ti_eqP c136 rfl (show (4 : Int32).toInt = 4 from rfl)
          unfold f_addMark_45
          exact t_addMark_50    (x1 := x1) (t0 := (2 : Int32)) hI hA (by decide) (by have z0 : (2 : Int32).toInt = 2 := rfl; omega) (fun h => absurd h (by decide))
        ·
          replace c136 := ti_eqN c136 rfl (show (4 : Int32).toInt = 4 from rfl)
          exact t_addMark_50    (x1 := x1) (t0 := (0 : Int32)) hI hA (by decide) (by have z0 : (0 : Int32).toInt = 0 := rfl; omega) (fun _ => by unfold m3; omega)
    ·
      replace c131 := ti_leN c131 rfl (show (255 : Int32).toInt = 255 from rfl)
      unfold f_addMark_12
      exact t_addMark_50    (x1 := x1) (t0 := (1 : Int32)) hI hA (by decide) (by have z0 : (1 : Int32).toInt = 1 := rfl; omega) (fun h => absurd h (by decide))
theorem t_addMark  {I : Nat → Int32} {A : Nat → Nat → Int32} {x1 : Int32} (hI : TJ I) (hA : TK A) : Ok (f_addMark x1 I A) (fun o => TJ o.2.1 ∧ TK o.2.2 ∧ ((0 : Int) ≤ o.1.toInt ∧ o.1.toInt ≤ (4 : Int))) := t_addMark_0  hI hA 
theorem t_say_102s  {I : Nat → Int32} {A : Nat → Nat → Int32} {self102 : Int32 → Int32 → (Nat → Int32) → (Nat → Nat → Int32) → Option (Int32 × MS)} {N102 : Nat} (hself102 : ∀ (x2 : Int32) (x3 : Int32) (I : Nat → Int32) (A : Nat → Nat → Int32), TJ I → TK A → ((0 : Int) ≤ x2.toInt ∧ x2.toInt ≤ (601 : Int)) → ((0 : Int) ≤ x3.toInt ∧ x3.toInt ≤ (200 : Int)) → ((I 1).toInt ≤ 200) → (201 - x3.toInt) < (N102 : Int) → Ok (self102 x2 x3 I A) (fun o => TJ o.2.1 ∧ TK o.2.2 ∧ ((0 : Int) ≤ o.1.toInt ∧ o.1.toInt ≤ (200 : Int)))) {x2 : Int32} {x3 : Int32} (hI : TJ I) (hA : TK A) (r_x2 : (0 : Int) ≤ x2.toInt ∧ x2.toInt ≤ (601 : Int)) (r_x3 : (0 : Int) ≤ x3.toInt ∧ x3.toInt ≤ (200 : Int)) (q0 : (I 1).toInt ≤ 200) (m102 : (201 - x3.toInt) ≤ (N102 : Int)) : Ok (f_say_102s self102 x2 x3 I A) (fun o => TJ o.2.1 ∧ TK o.2.2 ∧ ((0 : Int) ≤ o.1.toInt ∧ o.1.toInt ≤ (200 : Int))) := by
  unfold f_say_102s
  have b_I_0 := tI_0 hI
  have b_I_1 := tI_1 hI
  have b_I_5 := tI_5 hI
  have b_I_6 := tI_6 hI
  refine ok_if (fun c137 => ?_) (fun c137 => ?_)
  ·
    replace c137 := ti_leP c137 rfl rfl
    refine ok_chk (ti_in (by omega) (by omega)) ?_
    refine ok_bnd (fun A1 e138 => ?_)
    have hA_A1 : TK A1 := e138.symm ▸ tk_u hA (j := 14) (show (0 : Int) ≤ (I 1).toInt from (by omega)) (show (I 1).toInt ≤ (200 : Int) from (by omega))
    refine ok_bnd (fun I2 e139 => ?_)
    have hI_I2 : TJ I2 := e139.symm ▸ tj_u hI (k := 1) (show (0 : Int) ≤ (0 : Int32).toInt from (by decide)) (show (0 : Int32).toInt ≤ (2000 : Int) from (by decide))
    have : (I2 0).toInt = (I 0).toInt := by rw [e139]; rfl
    have : (I2 1).toInt = 0 := by rw [e139]; exact (show (0 : Int32).toInt = 0 from rfl)
    have : (I2 5).toInt = (I 5).toInt := by rw [e139]; rfl
    have : (I2 6).toInt = (I 6).toInt := by rw [e139]; rfl
    refine ok_chk (ti_in (by omega) (by omega)) ?_
    refine ok_bnd (fun v3 e140 => ?_)
    have b_v3 := tA_14 hA_A1 ((x2).toNatClampNeg)
    rw [← e140] at b_v3
    exact ok_ret ⟨hI_I2, hA_A1, (show (0 : Int) ≤ v3.toInt ∧ v3.toInt ≤ (200 : Int) from (by omega))⟩
  ·
    replace c137 := ti_leN c137 rfl rfl
    refine ok_bnd (fun v4 e141 => ?_)
    have t_v4 : v4.toInt = 200 * x2.toInt := ti_mul e141 (show (200 : Int32).toInt = 200 from rfl) rfl (by omega) (by omega)
    refine ok_bnd (fun v5 e142 => ?_)
    have t_v5 : v5.toInt = v4.toInt + x3.toInt := ti_add e142 rfl rfl (by omega) (by omega)
    refine ok_chk (ti_in (by omega) (by omega)) ?_
    refine ok_bnd (fun v6 e143 => ?_)
    have b_v6 := tA_2 hA ((x3).toNatClampNeg)
    rw [← e143] at b_v6
    refine ok_chk (ti_in (by omega) (by omega)) ?_
    refine ok_bnd (fun A7 e144 => ?_)
    have hA_A7 : TK A7 := e144.symm ▸ tk_n hA rfl
    refine ok_bnd (fun v8 e145 => ?_)
    have t_v8 : v8.toInt = x3.toInt + 1 := ti_add e145 rfl (show (1 : Int32).toInt = 1 from rfl) (by omega) (by omega)
    exact hself102 x2 v8 I A7 hI hA_A7 r_x2 (by omega) q0 (by omega)
theorem t_say_102   : ∀ (n : Nat) (x2 : Int32) (x3 : Int32) (I : Nat → Int32) (A : Nat → Nat → Int32), TJ I → TK A → ((0 : Int) ≤ x2.toInt ∧ x2.toInt ≤ (601 : Int)) → ((0 : Int) ≤ x3.toInt ∧ x3.toInt ≤ (200 : Int)) → ((I 1).toInt ≤ 200) → (201 - x3.toInt) < (n : Int) → Ok (f_say_102  n x2 x3 I A) (fun o => TJ o.2.1 ∧ TK o.2.2 ∧ ((0 : Int) ≤ o.1.toInt ∧ o.1.toInt ≤ (200 : Int))) := by
  intro n
  induction n with
  | zero => intro x2 x3 I A hI hA g0 g1 g2  hm; exfalso; omega
  | succ n ih =>
    intro x2 x3 I A hI hA g0 g1 g2  hm
    exact t_say_102s   (N102 := n)  ih hI hA g0 g1 g2  (by omega)
theorem t_say_74  {I : Nat → Int32} {A : Nat → Nat → Int32} {t0 : Int32} (hI : TJ I) (hA : TK A) (r_t0 : (0 : Int) ≤ t0.toInt ∧ t0.toInt ≤ (1 : Int)) (q0 : t0.toInt = 0 → (I 1).toInt ≤ 200) : Ok (f_say_74 t0 I A) (fun o => TJ o.2.1 ∧ TK o.2.2 ∧ ((0 : Int) ≤ o.1.toInt ∧ o.1.toInt ≤ (200 : Int))) := by
  unfold f_say_74
  have b_I_0 := tI_0 hI
  have b_I_1 := tI_1 hI
  have b_I_5 := tI_5 hI
  have b_I_6 := tI_6 hI
  refine ok_bnd (fun I1 e146 => ?_)
  have hI_I1 : TJ I1 := e146.symm ▸ tj_u hI (k := 0) (show (0 : Int) ≤ t0.toInt from (by omega)) (show t0.toInt ≤ (2 : Int) from (by omega))
  have : (I1 0).toInt = t0.toInt := by rw [e146]; exact rfl
  have : (I1 1).toInt = (I 1).toInt := by rw [e146]; rfl
  have : (I1 5).toInt = (I 5).toInt := by rw [e146]; rfl
  have : (I1 6).toInt = (I 6).toInt := by rw [e146]; rfl
  have b_I1_0 := tI_0 hI_I1
  refine ok_if (fun c147 => ?_) (fun c147 => ?_)
  ·
    replace c147 := ti_leP c147 rfl (show (0 : Int32).toInt = 0 from rfl)
    refine ok_bnd (fun v2 e148 => ?_)
    have b_I1_5 := tI_5 hI_I1
    have t_v2 : v2.toInt = 301 * (I1 5).toInt := ti_mul e148 (show (301 : Int32).toInt = 301 from rfl) rfl (by omega) (by omega)
    refine ok_bnd (fun v3 e149 => ?_)
    have b_I1_6 := tI_6 hI_I1
    have t_v3 : v3.toInt = v2.toInt + (I1 6).toInt := ti_add e149 rfl rfl (by omega) (by omega)
    have b_I1_1 := tI_1 hI_I1
    exact t_say_102     mFuel v3 (0 : Int32) I1 A hI_I1 hA (by omega) (by decide) (by have z0 : (0 : Int32).toInt = 0 := rfl; omega) (by show _ < ((200000 : Nat) : Int); have z0 : (0 : Int32).toInt = 0 := rfl; omega)
  ·
    replace c147 := ti_leN c147 rfl (show (0 : Int32).toInt = 0 from rfl)
    exact ok_ret ⟨hI_I1, hA, (show (0 : Int) ≤ (0 : Int32).toInt ∧ (0 : Int32).toInt ≤ (200 : Int) from (by decide))⟩
theorem t_say_57  {I : Nat → Int32} {A : Nat → Nat → Int32} {self18 : Int32 → Int32 → (Nat → Int32) → (Nat → Nat → Int32) → Option (Int32 × MS)} {N18 : Nat} (hself18 : ∀ (x1 : Int32) (x2 : Int32) (I : Nat → Int32) (A : Nat → Nat → Int32), TJ I → TK A → ((0 : Int) ≤ x1.toInt ∧ x1.toInt ≤ (1 : Int)) → ((0 : Int) ≤ x2.toInt ∧ x2.toInt ≤ (2000 : Int)) → (x1.toInt = 1 → (I 1).toInt ≤ 200) → (2001 - x2.toInt) < (N18 : Int) → Ok (self18 x1 x2 I A) (fun o => TJ o.2.1 ∧ TK o.2.2 ∧ ((0 : Int) ≤ o.1.toInt ∧ o.1.toInt ≤ (200 : Int)))) {x2 : Int32} {t0 : Int32} (hI : TJ I) (hA : TK A) (r_x2 : (0 : Int) ≤ x2.toInt ∧ x2.toInt ≤ (1999 : Int)) (r_t0 : (0 : Int) ≤ t0.toInt ∧ t0.toInt ≤ (1 : Int)) (q0 : t0.toInt = 1 → (I 1).toInt ≤ 200) (m18 : (2001 - x2.toInt) ≤ (N18 : Int)) : Ok (f_say_57 self18 x2 t0 I A) (fun o => TJ o.2.1 ∧ TK o.2.2 ∧ ((0 : Int) ≤ o.1.toInt ∧ o.1.toInt ≤ (200 : Int))) := by
  unfold f_say_57
  have b_I_0 := tI_0 hI
  have b_I_1 := tI_1 hI
  have b_I_5 := tI_5 hI
  have b_I_6 := tI_6 hI
  refine ok_bnd (fun v1 e150 => ?_)
  have t_v1 : v1.toInt = x2.toInt + 1 := ti_add e150 rfl (show (1 : Int32).toInt = 1 from rfl) (by omega) (by omega)
  exact hself18 t0 v1 I A hI hA r_t0 (by omega) q0 (by omega)
theorem t_say_18s  {I : Nat → Int32} {A : Nat → Nat → Int32} {self18 : Int32 → Int32 → (Nat → Int32) → (Nat → Nat → Int32) → Option (Int32 × MS)} {N18 : Nat} (hself18 : ∀ (x1 : Int32) (x2 : Int32) (I : Nat → Int32) (A : Nat → Nat → Int32), TJ I → TK A → ((0 : Int) ≤ x1.toInt ∧ x1.toInt ≤ (1 : Int)) → ((0 : Int) ≤ x2.toInt ∧ x2.toInt ≤ (2000 : Int)) → (x1.toInt = 1 → (I 1).toInt ≤ 200) → (2001 - x2.toInt) < (N18 : Int) → Ok (self18 x1 x2 I A) (fun o => TJ o.2.1 ∧ TK o.2.2 ∧ ((0 : Int) ≤ o.1.toInt ∧ o.1.toInt ≤ (200 : Int)))) {x1 : Int32} {x2 : Int32} (hI : TJ I) (hA : TK A) (r_x1 : (0 : Int) ≤ x1.toInt ∧ x1.toInt ≤ (1 : Int)) (r_x2 : (0 : Int) ≤ x2.toInt ∧ x2.toInt ≤ (2000 : Int)) (q0 : x1.toInt = 1 → (I 1).toInt ≤ 200) (m18 : (2001 - x2.toInt) ≤ (N18 : Int)) : Ok (f_say_18s self18 x1 x2 I A) (fun o => TJ o.2.1 ∧ TK o.2.2 ∧ ((0 : Int) ≤ o.1.toInt ∧ o.1.toInt ≤ (200 : Int))) := by
  unfold f_say_18s
  have b_I_0 := tI_0 hI
  have b_I_1 := tI_1 hI
  have b_I_5 := tI_5 hI
  have b_I_6 := tI_6 hI
  refine ok_if (fun c151 => ?_) (fun c151 => ?_)
  ·
    replace c151 := ti_leP c151 rfl rfl
    refine ok_if (fun c152 => ?_) (fun c152 => ?_)
    ·
      replace c152 := ti_eqP c152 rfl (show (0 : Int32).toInt = 0 from rfl)
      exact t_say_74    (t0 := (1 : Int32)) hI hA (by decide) (by have z0 : (1 : Int32).toInt = 1 := rfl; omega)
    ·
      replace c152 := ti_eqN c152 rfl (show (0 : Int32).toInt = 0 from rfl)
      exact t_say_74    (t0 := (0 : Int32)) hI hA (by decide) (by have z0 : (0 : Int32).toInt = 0 := rfl; omega)
  ·
    replace c151 := ti_leN c151 rfl rfl
    refine ok_if (fun c153 => ?_) (fun c153 => ?_)
    ·
      replace c153 := ti_eqP c153 rfl (show (0 : Int32).toInt = 0 from rfl)
      unfold f_say_56
      exact t_say_57   hself18 (x2 := x2) (t0 := (0 : Int32)) hI hA (by omega) (by decide) (by have z0 : (0 : Int32).toInt = 0 := rfl; omega) m18
    ·
      replace c153 := ti_eqN c153 rfl (show (0 : Int32).toInt = 0 from rfl)
      refine ok_chk (ti_in (by omega) (by omega)) ?_
      refine ok_bnd (fun v1 e154 => ?_)
      have b_v1 := tA_2 hA ((x2).toNatClampNeg)
      rw [← e154] at b_v1
      refine ok_if (fun c155 => ?_) (fun c155 => ?_)
      ·
        replace c155 := ti_eqP c155 rfl (show (125 : Int32).toInt = 125 from rfl)
        unfold f_say_56
        exact t_say_57   hself18 (x2 := x2) (t0 := (0 : Int32)) hI hA (by omega) (by decide) (by have z0 : (0 : Int32).toInt = 0 := rfl; omega) m18
      ·
        replace c155 := ti_eqN c155 rfl (show (125 : Int32).toInt = 125 from rfl)
        refine ok_chk (ti_in (by omega) (by omega)) ?_
        refine ok_bnd (fun v2 e156 => ?_)
        have b_v2 := tA_2 hA ((x2).toNatClampNeg)
        rw [← e156] at b_v2
        refine ok_if (fun c157 => ?_) (fun c157 => ?_)
        ·
          replace c157 := ti_eqP c157 rfl (show (10 : Int32).toInt = 10 from rfl)
          unfold f_say_56
          exact t_say_57   hself18 (x2 := x2) (t0 := (0 : Int32)) hI hA (by omega) (by decide) (by have z0 : (0 : Int32).toInt = 0 := rfl; omega) m18
        ·
          replace c157 := ti_eqN c157 rfl (show (10 : Int32).toInt = 10 from rfl)
          exact t_say_57   hself18 (x2 := x2) (t0 := (1 : Int32)) hI hA (by omega) (by decide) (by have z0 : (1 : Int32).toInt = 1 := rfl; omega) m18
theorem t_say_18   : ∀ (n : Nat) (x1 : Int32) (x2 : Int32) (I : Nat → Int32) (A : Nat → Nat → Int32), TJ I → TK A → ((0 : Int) ≤ x1.toInt ∧ x1.toInt ≤ (1 : Int)) → ((0 : Int) ≤ x2.toInt ∧ x2.toInt ≤ (2000 : Int)) → (x1.toInt = 1 → (I 1).toInt ≤ 200) → (2001 - x2.toInt) < (n : Int) → Ok (f_say_18  n x1 x2 I A) (fun o => TJ o.2.1 ∧ TK o.2.2 ∧ ((0 : Int) ≤ o.1.toInt ∧ o.1.toInt ≤ (200 : Int))) := by
  intro n
  induction n with
  | zero => intro x1 x2 I A hI hA g0 g1 g2  hm; exfalso; omega
  | succ n ih =>
    intro x1 x2 I A hI hA g0 g1 g2  hm
    exact t_say_18s   (N18 := n)  ih hI hA g0 g1 g2  (by omega)
theorem t_say_15  {I : Nat → Int32} {A : Nat → Nat → Int32} {t0 : Int32} (hI : TJ I) (hA : TK A) (r_t0 : (0 : Int) ≤ t0.toInt ∧ t0.toInt ≤ (1 : Int)) (q0 : t0.toInt = 1 → (I 1).toInt ≤ 200) : Ok (f_say_15 t0 I A) (fun o => TJ o.2.1 ∧ TK o.2.2 ∧ ((0 : Int) ≤ o.1.toInt ∧ o.1.toInt ≤ (200 : Int))) := by
  unfold f_say_15
  have b_I_0 := tI_0 hI
  have b_I_1 := tI_1 hI
  have b_I_5 := tI_5 hI
  have b_I_6 := tI_6 hI
  exact t_say_18     mFuel t0 (0 : Int32) I A hI hA r_t0 (by decide) q0 (by show _ < ((200000 : Nat) : Int); have z0 : (0 : Int32).toInt = 0 := rfl; omega)
theorem t_say_0  {I : Nat → Int32} {A : Nat → Nat → Int32} (hI : TJ I) (hA : TK A) : Ok (f_say_0 I A) (fun o => TJ o.2.1 ∧ TK o.2.2 ∧ ((0 : Int) ≤ o.1.toInt ∧ o.1.toInt ≤ (200 : Int))) := by
  unfold f_say_0
  have b_I_0 := tI_0 hI
  have b_I_1 := tI_1 hI
  have b_I_5 := tI_5 hI
  have b_I_6 := tI_6 hI
  refine ok_if (fun c158 => ?_) (fun c158 => ?_)
  ·
    replace c158 := ti_ltP c158 (show (200 : Int32).toInt = 200 from rfl) rfl
    exact t_say_15    (t0 := (0 : Int32)) hI hA (by decide) (by have z0 : (0 : Int32).toInt = 0 := rfl; omega)
  ·
    replace c158 := ti_ltN c158 (show (200 : Int32).toInt = 200 from rfl) rfl
    exact t_say_15    (t0 := (1 : Int32)) hI hA (by decide) (by have z0 : (1 : Int32).toInt = 1 := rfl; omega)
theorem t_say  {I : Nat → Int32} {A : Nat → Nat → Int32}  (hI : TJ I) (hA : TK A) : Ok (f_say  I A) (fun o => TJ o.2.1 ∧ TK o.2.2 ∧ ((0 : Int) ≤ o.1.toInt ∧ o.1.toInt ≤ (200 : Int))) := t_say_0  hI hA 
theorem t_end_15  {I : Nat → Int32} {A : Nat → Nat → Int32} {x1 : Int32} {t0 : Int32} (hI : TJ I) (hA : TK A) (r_t0 : (0 : Int) ≤ t0.toInt ∧ t0.toInt ≤ (1 : Int)) (q0 : t0.toInt = 0 → 0 ≤ x1.toInt ∧ x1.toInt ≤ 3) (q1 : t0.toInt = 1 → x1.toInt < 0 ∨ 3 < x1.toInt) : Ok (f_end_15 x1 t0 I A) (fun o => TJ o.2.1 ∧ TK o.2.2 ∧ ((0 ≤ x1.toInt ∧ x1.toInt ≤ 3 → (o.2.1 0).toInt = 0) ∧ (x1.toInt < 0 ∨ 3 < x1.toInt → (o.2.1 0).toInt = 1))) := by
  unfold f_end_15
  have b_I_0 := tI_0 hI
  have b_I_5 := tI_5 hI
  refine ok_bnd (fun I1 e159 => ?_)
  have hI_I1 : TJ I1 := e159.symm ▸ tj_u hI (k := 0) (show (0 : Int) ≤ t0.toInt from (by omega)) (show t0.toInt ≤ (2 : Int) from (by omega))
  have : (I1 0).toInt = t0.toInt := by rw [e159]; exact rfl
  have : (I1 5).toInt = (I 5).toInt := by rw [e159]; rfl
  have b_I1_0 := tI_0 hI_I1
  refine ok_if (fun c160 => ?_) (fun c160 => ?_)
  ·
    replace c160 := ti_leP c160 rfl (show (0 : Int32).toInt = 0 from rfl)
    unfold f_end_46
    have b_I1_5 := tI_5 hI_I1
    refine ok_chk (ti_in (by omega) (by omega)) ?_
    refine ok_bnd (fun A1 e161 => ?_)
    have hA_A1 : TK A1 := e161.symm ▸ tk_u hA (j := 23) (show (-1 : Int) ≤ x1.toInt from (by omega)) (show x1.toInt ≤ (3 : Int) from (by omega))
    exact ok_ret ⟨hI_I1, hA_A1, (by show (0 ≤ x1.toInt ∧ x1.toInt ≤ 3 → (I1 0).toInt = 0) ∧ (x1.toInt < 0 ∨ 3 < x1.toInt → (I1 0).toInt = 1); have z : (0 : Int32).toInt = 0 := rfl; omega)⟩
  ·
    replace c160 := ti_leN c160 rfl (show (0 : Int32).toInt = 0 from rfl)
    have b_I1_5 := tI_5 hI_I1
    refine ok_chk (ti_in (by omega) (by omega)) ?_
    refine ok_bnd (fun v2 e162 => ?_)
    have b_v2 := tA_23 hA (((I1 5)).toNatClampNeg)
    rw [← e162] at b_v2
    unfold f_end_46
    refine ok_chk (ti_in (by omega) (by omega)) ?_
    refine ok_bnd (fun A1 e163 => ?_)
    have hA_A1 : TK A1 := e163.symm ▸ tk_u hA (j := 23) (show (-1 : Int) ≤ v2.toInt from (by omega)) (show v2.toInt ≤ (3 : Int) from (by omega))
    exact ok_ret ⟨hI_I1, hA_A1, (by show (0 ≤ x1.toInt ∧ x1.toInt ≤ 3 → (I1 0).toInt = 0) ∧ (x1.toInt < 0 ∨ 3 < x1.toInt → (I1 0).toInt = 1); have z : (0 : Int32).toInt = 0 := rfl; omega)⟩
theorem t_end_0  {I : Nat → Int32} {A : Nat → Nat → Int32} {x1 : Int32} (hI : TJ I) (hA : TK A) : Ok (f_end_0 x1 I A) (fun o => TJ o.2.1 ∧ TK o.2.2 ∧ ((0 ≤ x1.toInt ∧ x1.toInt ≤ 3 → (o.2.1 0).toInt = 0) ∧ (x1.toInt < 0 ∨ 3 < x1.toInt → (o.2.1 0).toInt = 1))) := by
  unfold f_end_0
  have b_I_0 := tI_0 hI
  have b_I_5 := tI_5 hI
  refine ok_if (fun c164 => ?_) (fun c164 => ?_)
  ·
    replace c164 := ti_ltP c164 rfl (show (0 : Int32).toInt = 0 from rfl)
    unfold f_end_10
    exact t_end_15    (x1 := x1) (t0 := (1 : Int32)) hI hA (by decide) (by have z0 : (1 : Int32).toInt = 1 := rfl; omega) (by have z0 : (1 : Int32).toInt = 1 := rfl; omega)
  ·
    replace c164 := ti_ltN c164 rfl (show (0 : Int32).toInt = 0 from rfl)
    refine ok_if (fun c165 => ?_) (fun c165 => ?_)
    ·
      replace c165 := ti_leP c165 rfl (show (3 : Int32).toInt = 3 from rfl)
      exact t_end_15    (x1 := x1) (t0 := (0 : Int32)) hI hA (by decide) (by have z0 : (0 : Int32).toInt = 0 := rfl; omega) (by have z0 : (0 : Int32).toInt = 0 := rfl; omega)
    ·
      replace c165 := ti_leN c165 rfl (show (3 : Int32).toInt = 3 from rfl)
      unfold f_end_10
      exact t_end_15    (x1 := x1) (t0 := (1 : Int32)) hI hA (by decide) (by have z0 : (1 : Int32).toInt = 1 := rfl; omega) (by have z0 : (1 : Int32).toInt = 1 := rfl; omega)
theorem t_end  {I : Nat → Int32} {A : Nat → Nat → Int32} {x1 : Int32} (hI : TJ I) (hA : TK A) : Ok (f_end x1 I A) (fun o => TJ o.2.1 ∧ TK o.2.2 ∧ ((0 ≤ x1.toInt ∧ x1.toInt ≤ 3 → (o.2.1 0).toInt = 0) ∧ (x1.toInt < 0 ∨ 3 < x1.toInt → (o.2.1 0).toInt = 1))) := t_end_0  hI hA 
theorem t_result_0  {I : Nat → Int32} {A : Nat → Nat → Int32} (hI : TJ I) (hA : TK A) : Ok (f_result_0 I A) (fun o => TJ o.2.1 ∧ TK o.2.2 ∧ ((-1 : Int) ≤ o.1.toInt ∧ o.1.toInt ≤ (3 : Int))) := by
  unfold f_result_0
  have b_I_5 := tI_5 hI
  refine ok_bnd (fun I1 e166 => ?_)
  have hI_I1 : TJ I1 := e166.symm ▸ tj_u hI (k := 0) (show (0 : Int) ≤ (0 : Int32).toInt from (by decide)) (show (0 : Int32).toInt ≤ (2 : Int) from (by decide))
  have : (I1 5).toInt = (I 5).toInt := by rw [e166]; rfl
  have b_I1_5 := tI_5 hI_I1
  refine ok_chk (ti_in (by omega) (by omega)) ?_
  refine ok_bnd (fun v2 e167 => ?_)
  have b_v2 := tA_23 hA (((I1 5)).toNatClampNeg)
  rw [← e167] at b_v2
  exact ok_ret ⟨hI_I1, hA, (show (-1 : Int) ≤ v2.toInt ∧ v2.toInt ≤ (3 : Int) from (by omega))⟩
theorem t_result  {I : Nat → Int32} {A : Nat → Nat → Int32}  (hI : TJ I) (hA : TK A) : Ok (f_result  I A) (fun o => TJ o.2.1 ∧ TK o.2.2 ∧ ((-1 : Int) ≤ o.1.toInt ∧ o.1.toInt ≤ (3 : Int))) := t_result_0  hI hA 
theorem t_tags_0  {I : Nat → Int32} {A : Nat → Nat → Int32} (hI : TJ I) (hA : TK A) : Ok (f_tags_0 I A) (fun o => TJ o.2.1 ∧ TK o.2.2 ∧ ((0 : Int) ≤ o.1.toInt ∧ o.1.toInt ≤ (8 : Int))) := by
  unfold f_tags_0
  have b_I_5 := tI_5 hI
  refine ok_bnd (fun I1 e168 => ?_)
  have hI_I1 : TJ I1 := e168.symm ▸ tj_u hI (k := 0) (show (0 : Int) ≤ (0 : Int32).toInt from (by decide)) (show (0 : Int32).toInt ≤ (2 : Int) from (by decide))
  have : (I1 5).toInt = (I 5).toInt := by rw [e168]; rfl
  have b_I1_5 := tI_5 hI_I1
  refine ok_chk (ti_in (by omega) (by omega)) ?_
  refine ok_bnd (fun v2 e169 => ?_)
  have b_v2 := tA_18 hA (((I1 5)).toNatClampNeg)
  rw [← e169] at b_v2
  exact ok_ret ⟨hI_I1, hA, (show (0 : Int) ≤ v2.toInt ∧ v2.toInt ≤ (8 : Int) from (by omega))⟩
theorem t_tags  {I : Nat → Int32} {A : Nat → Nat → Int32}  (hI : TJ I) (hA : TK A) : Ok (f_tags  I A) (fun o => TJ o.2.1 ∧ TK o.2.2 ∧ ((0 : Int) ≤ o.1.toInt ∧ o.1.toInt ≤ (8 : Int))) := t_tags_0  hI hA 
theorem t_tag_74  {I : Nat → Int32} {A : Nat → Nat → Int32} {x1 : Int32} {x2 : Int32} {x3 : Int32} {t0 : Int32} (hI : TJ I) (hA : TK A) (r_t0 : (0 : Int) ≤ t0.toInt ∧ t0.toInt ≤ (96 : Int)) (q0 : 0 ≤ x1.toInt ∧ x1.toInt ≤ 7 ∧ 0 ≤ x3.toInt) (q1 : x2.toInt = 0 → t0.toInt ≤ 12) : Ok (f_tag_74 x1 x2 x3 t0 I A) (fun o => TJ o.2.1 ∧ TK o.2.2 ∧ ((0 : Int) ≤ o.1.toInt ∧ o.1.toInt ≤ (65535 : Int))) := by
  unfold f_tag_74
  have b_I_5 := tI_5 hI
  have b_I_0 := tI_0 hI
  refine ok_if (fun c170 => ?_) (fun c170 => ?_)
  ·
    replace c170 := ti_ltP c170 rfl rfl
    refine ok_if (fun c171 => ?_) (fun c171 => ?_)
    ·
      replace c171 := ti_eqP c171 rfl (show (0 : Int32).toInt = 0 from rfl)
      refine ok_bnd (fun v1 e172 => ?_)
      have t_v1 : v1.toInt = 96 * (I 5).toInt := ti_mul e172 (show (96 : Int32).toInt = 96 from rfl) rfl (by omega) (by omega)
      refine ok_bnd (fun v2 e173 => ?_)
      have t_v2 : v2.toInt = 12 * x1.toInt := ti_mul e173 (show (12 : Int32).toInt = 12 from rfl) rfl (by omega) (by omega)
      refine ok_bnd (fun v3 e174 => ?_)
      have t_v3 : v3.toInt = v1.toInt + v2.toInt := ti_add e174 rfl rfl (by omega) (by omega)
      refine ok_bnd (fun v4 e175 => ?_)
      have t_v4 : v4.toInt = v3.toInt + x3.toInt := ti_add e175 rfl rfl (by omega) (by omega)
      refine ok_chk (ti_in (by omega) (by omega)) ?_
      refine ok_bnd (fun v5 e176 => ?_)
      have b_v5 := tA_20 hA ((v4).toNatClampNeg)
      rw [← e176] at b_v5
      unfold f_tag_132
      exact ok_ret ⟨hI, hA, (show (0 : Int) ≤ v5.toInt ∧ v5.toInt ≤ (65535 : Int) from (by omega))⟩
    ·
      replace c171 := ti_eqN c171 rfl (show (0 : Int32).toInt = 0 from rfl)
      refine ok_bnd (fun v6 e177 => ?_)
      have t_v6 : v6.toInt = 768 * (I 5).toInt := ti_mul e177 (show (768 : Int32).toInt = 768 from rfl) rfl (by omega) (by omega)
      refine ok_bnd (fun v7 e178 => ?_)
      have t_v7 : v7.toInt = 96 * x1.toInt := ti_mul e178 (show (96 : Int32).toInt = 96 from rfl) rfl (by omega) (by omega)
      refine ok_bnd (fun v8 e179 => ?_)
      have t_v8 : v8.toInt = v6.toInt + v7.toInt := ti_add e179 rfl rfl (by omega) (by omega)
      refine ok_bnd (fun v9 e180 => ?_)
      have t_v9 : v9.toInt = v8.toInt + x3.toInt := ti_add e180 rfl rfl (by omega) (by omega)
      refine ok_chk (ti_in (by omega) (by omega)) ?_
      refine ok_bnd (fun v10 e181 => ?_)
      have b_v10 := tA_22 hA ((v9).toNatClampNeg)
      rw [← e181] at b_v10
      unfold f_tag_132
      exact ok_ret ⟨hI, hA, (show (0 : Int) ≤ v10.toInt ∧ v10.toInt ≤ (65535 : Int) from (by omega))⟩
  ·
    replace c170 := ti_ltN c170 rfl rfl
    unfold f_tag_132
    exact ok_ret ⟨hI, hA, (show (0 : Int) ≤ (0 : Int32).toInt ∧ (0 : Int32).toInt ≤ (65535 : Int) from (by decide))⟩
theorem t_tag_27  {I : Nat → Int32} {A : Nat → Nat → Int32} {x1 : Int32} {x2 : Int32} {x3 : Int32} {t0 : Int32} (hI : TJ I) (hA : TK A) (r_t0 : (0 : Int) ≤ t0.toInt ∧ t0.toInt ≤ (1 : Int)) (q0 : t0.toInt = 0 → 0 ≤ x1.toInt ∧ x1.toInt ≤ 7 ∧ 0 ≤ x3.toInt) : Ok (f_tag_27 x1 x2 x3 t0 I A) (fun o => TJ o.2.1 ∧ TK o.2.2 ∧ ((0 : Int) ≤ o.1.toInt ∧ o.1.toInt ≤ (65535 : Int))) := by
  unfold f_tag_27
  have b_I_5 := tI_5 hI
  have b_I_0 := tI_0 hI
  refine ok_bnd (fun I1 e182 => ?_)
  have hI_I1 : TJ I1 := e182.symm ▸ tj_u hI (k := 0) (show (0 : Int) ≤ t0.toInt from (by omega)) (show t0.toInt ≤ (2 : Int) from (by omega))
  have : (I1 5).toInt = (I 5).toInt := by rw [e182]; rfl
  have : (I1 0).toInt = t0.toInt := by rw [e182]; exact rfl
  have b_I1_0 := tI_0 hI_I1
  refine ok_if (fun c183 => ?_) (fun c183 => ?_)
  ·
    replace c183 := ti_leP c183 rfl (show (0 : Int32).toInt = 0 from rfl)
    refine ok_if (fun c184 => ?_) (fun c184 => ?_)
    ·
      replace c184 := ti_eqP c184 rfl (show (0 : Int32).toInt = 0 from rfl)
      refine ok_bnd (fun v2 e185 => ?_)
      have b_I1_5 := tI_5 hI_I1
      have t_v2 : v2.toInt = 8 * (I1 5).toInt := ti_mul e185 (show (8 : Int32).toInt = 8 from rfl) rfl (by omega) (by omega)
      refine ok_bnd (fun v3 e186 => ?_)
      have t_v3 : v3.toInt = v2.toInt + x1.toInt := ti_add e186 rfl rfl (by omega) (by omega)
      refine ok_chk (ti_in (by omega) (by omega)) ?_
      refine ok_bnd (fun v4 e187 => ?_)
      have b_v4 := tA_19 hA ((v3).toNatClampNeg)
      rw [← e187] at b_v4
      exact t_tag_74    (x1 := x1) (x2 := x2) (x3 := x3) (t0 := v4) hI_I1 hA (by omega) (by omega) (by omega)
    ·
      replace c184 := ti_eqN c184 rfl (show (0 : Int32).toInt = 0 from rfl)
      refine ok_bnd (fun v5 e188 => ?_)
      have b_I1_5 := tI_5 hI_I1
      have t_v5 : v5.toInt = 8 * (I1 5).toInt := ti_mul e188 (show (8 : Int32).toInt = 8 from rfl) rfl (by omega) (by omega)
      refine ok_bnd (fun v6 e189 => ?_)
      have t_v6 : v6.toInt = v5.toInt + x1.toInt := ti_add e189 rfl rfl (by omega) (by omega)
      refine ok_chk (ti_in (by omega) (by omega)) ?_
      refine ok_bnd (fun v7 e190 => ?_)
      have b_v7 := tA_21 hA ((v6).toNatClampNeg)
      rw [← e190] at b_v7
      exact t_tag_74    (x1 := x1) (x2 := x2) (x3 := x3) (t0 := v7) hI_I1 hA (by omega) (by omega) (by omega)
  ·
    replace c183 := ti_leN c183 rfl (show (0 : Int32).toInt = 0 from rfl)
    exact ok_ret ⟨hI_I1, hA, (show (0 : Int) ≤ (0 : Int32).toInt ∧ (0 : Int32).toInt ≤ (65535 : Int) from (by decide))⟩
theorem t_tag_0  {I : Nat → Int32} {A : Nat → Nat → Int32} {x1 : Int32} {x2 : Int32} {x3 : Int32} (hI : TJ I) (hA : TK A) : Ok (f_tag_0 x1 x2 x3 I A) (fun o => TJ o.2.1 ∧ TK o.2.2 ∧ ((0 : Int) ≤ o.1.toInt ∧ o.1.toInt ≤ (65535 : Int))) := by
  unfold f_tag_0
  have b_I_5 := tI_5 hI
  have b_I_0 := tI_0 hI
  refine ok_if (fun c191 => ?_) (fun c191 => ?_)
  ·
    replace c191 := ti_ltP c191 rfl (show (0 : Int32).toInt = 0 from rfl)
    unfold f_tag_22
    exact t_tag_27    (x1 := x1) (x2 := x2) (x3 := x3) (t0 := (1 : Int32)) hI hA (by decide) (by have z0 : (1 : Int32).toInt = 1 := rfl; omega)
  ·
    replace c191 := ti_ltN c191 rfl (show (0 : Int32).toInt = 0 from rfl)
    refine ok_chk (ti_in (by omega) (by omega)) ?_
    refine ok_bnd (fun v1 e192 => ?_)
    have b_v1 := tA_18 hA (((I 5)).toNatClampNeg)
    rw [← e192] at b_v1
    refine ok_if (fun c193 => ?_) (fun c193 => ?_)
    ·
      replace c193 := ti_leP c193 rfl rfl
      unfold f_tag_22
      exact t_tag_27    (x1 := x1) (x2 := x2) (x3 := x3) (t0 := (1 : Int32)) hI hA (by decide) (by have z0 : (1 : Int32).toInt = 1 := rfl; omega)
    ·
      replace c193 := ti_leN c193 rfl rfl
      refine ok_if (fun c194 => ?_) (fun c194 => ?_)
      ·
        replace c194 := ti_leP c194 (show (0 : Int32).toInt = 0 from rfl) rfl
        exact t_tag_27    (x1 := x1) (x2 := x2) (x3 := x3) (t0 := (0 : Int32)) hI hA (by decide) (by have z0 : (0 : Int32).toInt = 0 := rfl; omega)
      ·
        replace c194 := ti_leN c194 (show (0 : Int32).toInt = 0 from rfl) rfl
        unfold f_tag_22
        exact t_tag_27    (x1 := x1) (x2 := x2) (x3 := x3) (t0 := (1 : Int32)) hI hA (by decide) (by have z0 : (1 : Int32).toInt = 1 := rfl; omega)
theorem t_tag  {I : Nat → Int32} {A : Nat → Nat → Int32} {x1 : Int32} {x2 : Int32} {x3 : Int32} (hI : TJ I) (hA : TK A) : Ok (f_tag x1 x2 x3 I A) (fun o => TJ o.2.1 ∧ TK o.2.2 ∧ ((0 : Int) ≤ o.1.toInt ∧ o.1.toInt ≤ (65535 : Int))) := t_tag_0  hI hA 
theorem t_thrown_0  {I : Nat → Int32} {A : Nat → Nat → Int32} (hI : TJ I) (hA : TK A) : Ok (f_thrown_0 I A) (fun o => o.2 = (I, A) ∧ ((0 : Int) ≤ o.1.toInt ∧ o.1.toInt ≤ (2 : Int))) := by
  unfold f_thrown_0
  have b_I_0 := tI_0 hI
  exact ok_ret ⟨rfl, (show (0 : Int) ≤ (I 0).toInt ∧ (I 0).toInt ≤ (2 : Int) from (by omega))⟩
theorem t_thrown  {I : Nat → Int32} {A : Nat → Nat → Int32}  (hI : TJ I) (hA : TK A) : Ok (f_thrown  I A) (fun o => o.2 = (I, A) ∧ ((0 : Int) ≤ o.1.toInt ∧ o.1.toInt ≤ (2 : Int))) := t_thrown_0  hI hA 
end
section
noncomputable def aP (A : Nat → Nat → Int32) (g k : Nat) : Int := (A 8 (301 * g + k)).toInt
noncomputable def aM (A : Nat → Nat → Int32) (g k : Nat) : Int := (A 9 (301 * g + k)).toInt
noncomputable def aC (A : Nat → Nat → Int32) (g k : Nat) : Int := (A 10 (301 * g + k)).toInt
noncomputable def aN (A : Nat → Nat → Int32) (g k : Nat) : Int := (A 11 (301 * g + k)).toInt
noncomputable def aK (A : Nat → Nat → Int32) (g : Nat) : Nat := (A 7 g).toInt.toNat
/-- a row of nodes: v names its first one, N the next -/
noncomputable def chn (N : Nat → Int) : List Nat → Int → Prop
  | [], v => v = -1
  | k :: l, v => v = (k : Int) ∧ chn N l (N k)
noncomputable def TTl (n : Nat) (P C N : Nat → Int) (L : Nat → List Nat) : Prop := ∀ p, p ≤ n → chn N (L p) (C p) ∧ (L p).Nodup ∧ ∀ k, k ∈ L p ↔ (1 ≤ k ∧ k ≤ n ∧ P k = (p : Int))
noncomputable def TTd (n : Nat) (P C : Nat → Int) (D : Nat → Nat) : Prop := D 0 = 0 ∧ (∀ k, 1 ≤ k → k ≤ n → D k = D (P k).toNat + (if C (P k).toNat = (k : Int) then 0 else 1)) ∧ ∀ k, k ≤ n → D k ≤ 6
noncomputable def TTb (n : Nat) (P M : Nat → Int) : Prop := ∀ k, 1 ≤ k → k ≤ n → (0 ≤ P k ∧ P k < (k : Int)) ∧ 0 ≤ M k
noncomputable def TT (n : Nat) (P M C N : Nat → Int) : Prop := TTb n P M ∧ ∃ (L : Nat → List Nat) (D : Nat → Nat), TTl n P C N L ∧ TTd n P C D
theorem chn_congr {N N' : Nat → Int} : ∀ {l : List Nat} {v : Int}, (∀ k ∈ l, N' k = N k) → chn N l v → chn N' l v
  | [], _, _, h => h
  | k :: l, v, hk, h => ⟨h.1, by
      have h1 := h.2
      rw [← hk k (List.mem_cons_self)] at h1
      exact chn_congr (fun j hj => hk j (List.mem_cons_of_mem _ hj)) h1⟩
theorem TT_congr {n : Nat} {P M C N P' M' C' N' : Nat → Int} (h : TT n P M C N) (e : ∀ k, k ≤ n → P' k = P k ∧ M' k = M k ∧ C' k = C k ∧ N' k = N k) : TT n P' M' C' N' := by
  obtain ⟨hb, L, D, hl, hd⟩ := h
  refine ⟨fun k h1 h2 => ?_, L, D, fun p hp => ?_, hd.1, fun k h1 h2 => ?_, hd.2.2⟩
  · rw [(e k h2).1, (e k h2).2.1]; exact hb k h1 h2
  · obtain ⟨a, b, c⟩ := hl p hp
    refine ⟨?_, b, fun k => ?_⟩
    · rw [(e p hp).2.2.1]
      exact chn_congr (fun k hk => (e k ((c k).mp hk).2.1).2.2.2) a
    · rw [c k]
      constructor
      · intro h; exact ⟨h.1, h.2.1, by rw [(e k h.2.1).1]; exact h.2.2⟩
      · intro h; exact ⟨h.1, h.2.1, by rw [← (e k h.2.1).1]; exact h.2.2⟩
  · have h3 := (hb k h1 h2).1
    rw [(e k h2).1, (e (P k).toNat (by omega)).2.2.1]
    exact hd.2.1 k h1 h2
theorem TT_nil {P M C N : Nat → Int} (h : C 0 = -1) : TT 0 P M C N := by
  refine ⟨fun k h1 h2 => by omega, fun _ => [], fun _ => 0, fun p hp => ⟨?_, List.nodup_nil, fun k => ?_⟩, rfl, fun k h1 h2 => by omega, fun k _ => Nat.zero_le _⟩
  · have : p = 0 := by omega
    subst this; exact h
  · constructor
    · intro h; cases h
    · intro h; omega
theorem chn_nn {N : Nat → Int} {l : List Nat} {v : Int} (h : chn N l v) : v = -1 ∨ 0 ≤ v := by
  cases l with
  | nil => exact Or.inl h
  | cons k l => right; rw [h.1]; exact Int.natCast_nonneg k
theorem chn_nil {N : Nat → Int} {l : List Nat} {v : Int} (h : chn N l v) (hv : v < 0) : l = [] := by
  cases l with
  | nil => rfl
  | cons k l => have := h.1; omega
theorem chn_snoc {N N' : Nat → Int} {k : Nat} : ∀ {l : List Nat} {v : Int}, chn N l v → (hl : l ≠ []) → l.Nodup → k ∉ l → N' k = -1 → N' (l.getLast hl) = (k : Int) → (∀ j ∈ l, j ≠ l.getLast hl → N' j = N j) → chn N' (l ++ [k]) v
  | [a], v, h, _, _, _, hk, hlast, _ => ⟨h.1, by
      have : N' a = (k : Int) := hlast
      exact ⟨this, hk⟩⟩
  | a :: b :: l, v, h, _, hnd, hkl, hk, hlast, ho => by
      have hab : a ≠ (b :: l).getLast (by simp) := by
        intro e
        have : a ∈ b :: l := by rw [e]; exact List.getLast_mem _
        exact (List.nodup_cons.mp hnd).1 this
      refine ⟨h.1, ?_⟩
      have e1 : N' a = N a := ho a List.mem_cons_self (by rw [List.getLast_cons (by simp)]; exact hab)
      show chn N' (b :: l ++ [k]) (N' a)
      rw [e1]
      refine chn_snoc h.2 (by simp) (List.nodup_cons.mp hnd).2 (fun hm => hkl (List.mem_cons_of_mem _ hm)) hk ?_ ?_
      · rw [List.getLast_cons (by simp)] at hlast; exact hlast
      · intro j hj hne
        exact ho j (List.mem_cons_of_mem _ hj) (by rw [List.getLast_cons (by simp)]; exact hne)
/-- a new node at the end of its parent's row -/
theorem TT_app {n node : Nat} {P M C N P' M' C' N' : Nat → Int} {L : Nat → List Nat} {D : Nat → Nat} (hb : TTb n P M) (hl : TTl n P C N L) (hd : TTd n P C D) (hnode : node ≤ n) (hdeep : D node + (if L node = [] then 0 else 1) ≤ 6)
    (eP : ∀ j, j ≤ n → P' j = P j) (eP1 : P' (n + 1) = (node : Int)) (eM : ∀ j, j ≤ n → M' j = M j) (eM1 : 0 ≤ M' (n + 1))
    (eC : ∀ j, j ≤ n → j ≠ node → C' j = C j) (eC0 : L node ≠ [] → C' node = C node) (eC1 : L node = [] → C' node = ((n + 1 : Nat) : Int)) (eC2 : C' (n + 1) = -1)
    (eN : ∀ j, j ≤ n → (∀ h : L node ≠ [], j ≠ (L node).getLast h) → N' j = N j) (eN1 : ∀ h : L node ≠ [], N' ((L node).getLast h) = ((n + 1 : Nat) : Int)) (eN2 : N' (n + 1) = -1) : TT (n + 1) P' M' C' N' := by
  have hLn : ∀ p, p ≤ n → ∀ k ∈ L p, 1 ≤ k ∧ k ≤ n ∧ P k = (p : Int) := fun p hp k hk => ((hl p hp).2.2 k).mp hk
  refine ⟨fun k h1 h2 => ?_, fun p => if p = node then L node ++ [n + 1] else if p = n + 1 then [] else L p, fun j => if j = n + 1 then D node + (if L node = [] then 0 else 1) else D j, fun p hp => ?_, ?_, fun k h1 h2 => ?_, fun k hk => ?_⟩
  · by_cases e : k = n + 1
    · subst e; rw [eP1]; exact ⟨by omega, eM1⟩
    · rw [eP k (by omega), eM k (by omega)]; exact hb k h1 (by omega)
  · by_cases e : p = node
    · subst e
      obtain ⟨a, b, c⟩ := hl p hnode
      dsimp only
      rw [if_pos rfl]
      have hnm : n + 1 ∉ L p := fun h => by have := hLn p hnode _ h; omega
      refine ⟨?_, ?_, fun k => ?_⟩
      · by_cases h0 : L p = []
        · rw [h0, eC1 h0]
          exact ⟨rfl, eN2⟩
        · rw [eC0 h0]
          refine chn_snoc a h0 b hnm eN2 (eN1 h0) (fun j hj hne => eN j (hLn p hnode j hj).2.1 (fun _ => hne))
      · rw [List.nodup_append]
        refine ⟨b, by simp, fun x hx y hy => ?_⟩
        have : y = n + 1 := by simpa using hy
        subst this
        intro e; subst e; exact hnm hx
      · rw [List.mem_append, c k]
        constructor
        · intro h
          rcases h with h | h
          · exact ⟨h.1, by omega, by rw [eP k h.2.1]; exact h.2.2⟩
          · have : k = n + 1 := by simpa using h
            subst this; exact ⟨by omega, by omega, eP1⟩
        · intro h
          by_cases e : k = n + 1
          · right; simp [e]
          · left; exact ⟨h.1, by omega, by rw [← eP k (by omega)]; exact h.2.2⟩
    · dsimp only
      rw [if_neg e]
      by_cases e1 : p = n + 1
      · rw [if_pos e1]
        subst e1
        refine ⟨eC2, List.nodup_nil, fun k => ?_⟩
        constructor
        · intro h; cases h
        · intro h
          by_cases e2 : k = n + 1
          · subst e2; rw [eP1] at h; omega
          · have h3 := (hb k h.1 (by omega)).1
            rw [eP k (by omega)] at h
            omega
      · rw [if_neg e1]
        obtain ⟨a, b, c⟩ := hl p (by omega)
        refine ⟨?_, b, fun k => ?_⟩
        · rw [eC p (by omega) e]
          refine chn_congr (fun j hj => eN j (hLn p (by omega) j hj).2.1 (fun h he => ?_)) a
          have h4 := hLn p (by omega) j hj
          have h5 := hLn node hnode _ (List.getLast_mem h)
          rw [← he] at h5
          omega
        · rw [c k]
          constructor
          · intro h; exact ⟨h.1, by omega, by rw [eP k h.2.1]; exact h.2.2⟩
          · intro h
            by_cases e2 : k = n + 1
            · subst e2; rw [eP1] at h; omega
            · exact ⟨h.1, by omega, by rw [← eP k (by omega)]; exact h.2.2⟩
  · show (if 0 = n + 1 then _ else D 0) = 0
    rw [if_neg (by omega)]; exact hd.1
  · have hCn : L node ≠ [] → C node ≠ ((n + 1 : Nat) : Int) := fun h0 he => by
      obtain ⟨a, b, c⟩ := hl node hnode
      cases hL : L node with
      | nil => exact h0 hL
      | cons x l =>
        rw [hL] at a
        have h1 := a.1
        have h2 := hLn node hnode x (by rw [hL]; exact List.mem_cons_self)
        omega
    by_cases e : k = n + 1
    · subst e
      have e3 : (P' (n + 1)).toNat = node := by rw [eP1]; exact Int.toNat_natCast node
      rw [e3]
      show (if n + 1 = n + 1 then _ else _) = (if node = n + 1 then _ else D node) + _
      rw [if_pos rfl, if_neg (show ¬ node = n + 1 by omega)]
      by_cases h0 : L node = []
      · rw [if_pos h0, if_pos (eC1 h0)]
      · rw [if_neg h0, if_neg (by rw [eC0 h0]; exact hCn h0)]
    · have h3 := (hb k h1 (by omega)).1
      show (if k = n + 1 then _ else D k) = (if (P' k).toNat = n + 1 then _ else D (P' k).toNat) + _
      rw [if_neg e, eP k (by omega), if_neg (show ¬ (P k).toNat = n + 1 by omega), hd.2.1 k h1 (by omega)]
      congr 1
      by_cases e4 : (P k).toNat = node
      · rw [e4]
        have hmem : k ∈ L node := ((hl node hnode).2.2 k).mpr ⟨h1, by omega, by omega⟩
        have h0 : L node ≠ [] := fun h => by rw [h] at hmem; cases hmem
        rw [eC0 h0]
      · rw [eC _ (by omega) e4]
  · show (if k = n + 1 then _ else D k) ≤ 6
    by_cases e : k = n + 1
    · rw [if_pos e]; exact hdeep
    · rw [if_neg e]; exact hd.2.2 k (by omega)
end
section
/-- a is k, or stands on the way from k to node 0 -/
noncomputable def bhf (P : Nat → Int) : Nat → Nat → Nat → Prop
  | 0, a, k => k = a
  | m + 1, a, k => k = a ∨ (1 ≤ k ∧ bhf P m a (P k).toNat)
noncomputable def bh (P : Nat → Int) (a k : Nat) : Prop := bhf P k a k
theorem bhf_eq {n : Nat} {P M : Nat → Int} (hb : TTb n P M) (a : Nat) : ∀ m k, k ≤ m → k ≤ n → (bhf P m a k ↔ bh P a k) := by
  intro m
  induction m with
  | zero => intro k h1 _; have : k = 0 := by omega
            subst this; exact Iff.rfl
  | succ m ih =>
    intro k h1 h2
    cases k with
    | zero =>
      show (0 = a ∨ (1 ≤ 0 ∧ _)) ↔ 0 = a
      constructor
      · intro h
        rcases h with h | h
        · exact h
        · omega
      · intro h; exact Or.inl h
    | succ k =>
      have h3 := (hb (k + 1) (by omega) h2).1
      show (k + 1 = a ∨ (1 ≤ k + 1 ∧ bhf P m a (P (k + 1)).toNat)) ↔ (k + 1 = a ∨ (1 ≤ k + 1 ∧ bhf P k a (P (k + 1)).toNat))
      rw [ih _ (by omega) (by omega)]
      have h4 : ∀ j, j ≤ k → j ≤ n → (bhf P k a j ↔ bh P a j) := by
        intro j h5 h6
        by_cases e : k = m
        · subst e; exact ih j h5 h6
        · have aux : ∀ d j, j ≤ n → (bhf P (j + d) a j ↔ bh P a j) := by
            intro d
            induction d with
            | zero => intro j _; exact Iff.rfl
            | succ d ih2 =>
              intro j hj
              have step : ∀ q j, j ≤ q → j ≤ n → (bhf P (q + 1) a j ↔ bhf P q a j) := by
                intro q
                induction q with
                | zero => intro j h _; have : j = 0 := by omega
                          subst this
                          constructor
                          · intro h
                            rcases h with h | h
                            · exact h
                            · omega
                          · intro h; exact Or.inl h
                | succ q ihq =>
                  intro j h h'
                  cases j with
                  | zero =>
                    constructor
                    · intro h
                      rcases h with h | h
                      · exact Or.inl h
                      · omega
                    · intro h
                      rcases h with h | h
                      · exact Or.inl h
                      · omega
                  | succ j =>
                    have h7 := (hb (j + 1) (by omega) h').1
                    show (j + 1 = a ∨ (1 ≤ j + 1 ∧ bhf P (q + 1) a (P (j + 1)).toNat)) ↔ (j + 1 = a ∨ (1 ≤ j + 1 ∧ bhf P q a (P (j + 1)).toNat))
                    rw [ihq _ (by omega) (by omega)]
              rw [show j + (d + 1) = (j + d) + 1 by omega, step (j + d) j (by omega) hj]
              exact ih2 j hj
          have := aux (k - j) j h6
          rw [show j + (k - j) = k by omega] at this
          exact this
      rw [h4 _ (by omega) (by omega)]
theorem bh_step {n : Nat} {P M : Nat → Int} (hb : TTb n P M) {a k : Nat} (h1 : 1 ≤ k) (h2 : k ≤ n) : bh P a k ↔ (k = a ∨ bh P a (P k).toNat) := by
  have h3 := (hb k h1 h2).1
  cases k with
  | zero => omega
  | succ k =>
    show (k + 1 = a ∨ (1 ≤ k + 1 ∧ bhf P k a (P (k + 1)).toNat)) ↔ _
    rw [bhf_eq hb a k _ (by omega) (by omega)]
    constructor
    · intro h
      rcases h with h | h
      · exact Or.inl h
      · exact Or.inr h.2
    · intro h
      rcases h with h | h
      · exact Or.inl h
      · exact Or.inr ⟨by omega, h⟩
theorem bh_le {n : Nat} {P M : Nat → Int} (hb : TTb n P M) {a : Nat} : ∀ k, k ≤ n → bh P a k → a ≤ k := by
  intro k
  induction k using Nat.strongRecOn with
  | ind k ih =>
    intro hk h
    cases k with
    | zero => have : 0 = a := h
              omega
    | succ k =>
      have h3 := (hb (k + 1) (by omega) hk).1
      rcases (bh_step hb (by omega) hk).mp h with h | h
      · omega
      · have := ih _ (by omega) (by omega) h
        omega
theorem bh_D {n : Nat} {P M C : Nat → Int} {D : Nat → Nat} (hb : TTb n P M) (hd : TTd n P C D) {a : Nat} : ∀ k, k ≤ n → bh P a k → D a ≤ D k := by
  intro k
  induction k using Nat.strongRecOn with
  | ind k ih =>
    intro hk h
    cases k with
    | zero => have : 0 = a := h
              rw [← this]; exact Nat.le_refl _
    | succ k =>
      have h3 := (hb (k + 1) (by omega) hk).1
      rcases (bh_step hb (by omega) hk).mp h with h | h
      · rw [h]; exact Nat.le_refl _
      · have h4 := ih _ (by omega) (by omega) h
        rw [hd.2.1 (k + 1) (by omega) hk]
        exact Nat.le_trans h4 (Nat.le_add_right _ _)
theorem chn_del {N N' : Nat → Int} {b h : Nat} {r : List Nat} (hb : N' b = N h) (hr : ∀ j ∈ r, N' j = N j) : ∀ (l : List Nat) (v : Int), (∀ j ∈ l, N' j = N j) → chn N (l ++ b :: h :: r) v → chn N' (l ++ b :: r) v
  | [], v, _, hc => ⟨hc.1, by rw [hb]; exact chn_congr hr hc.2.2⟩
  | k :: l, v, hl, hc => ⟨hc.1, by
      rw [hl k List.mem_cons_self]
      exact chn_del hb hr l _ (fun j hj => hl j (List.mem_cons_of_mem _ hj)) hc.2⟩
/-- one of a row goes to its front -/
theorem TT_lead {n u F H b : Nat} {l r : List Nat} {P M C N C' N' : Nat → Int} {L : Nat → List Nat} {D : Nat → Nat} (hb : TTb n P M) (hl : TTl n P C N L) (hd : TTd n P C D) (hu : u ≤ n) (hL : L u = l ++ b :: H :: r) (hF : C u = (F : Int)) (hchk : ∀ k, 1 ≤ k → k ≤ n → bh P F k → D k ≠ 6)
    (eC : ∀ j, j ≤ n → j ≠ u → C' j = C j) (eCu : C' u = (H : Int)) (eNb : N' b = N H) (eNH : N' H = (F : Int)) (eN : ∀ j, j ≤ n → j ≠ b → j ≠ H → N' j = N j) : TT n P M C' N' := by
  have hc := (hl u hu).1
  have hnd := (hl u hu).2.1
  have hmem := (hl u hu).2.2
  rw [hL] at hc hnd hmem
  have hF' : (F : Nat) ∈ l ++ b :: H :: r ∧ (l ++ b :: r).head? = some F := by
    cases l with
    | nil => have := hc.1
             have e : F = b := by omega
             subst e; exact ⟨by simp, rfl⟩
    | cons x l => have := hc.1
                  have e : F = x := by omega
                  subst e; exact ⟨by simp, rfl⟩
  obtain ⟨f1, f2, f3⟩ := (hmem F).mp hF'.1
  obtain ⟨g1, g2, g3⟩ := (hmem H).mp (by simp)
  have hnd2 := List.nodup_append.mp hnd
  have hbH : b ≠ H := by
    intro e
    have := (List.nodup_cons.mp hnd2.2.1).1
    exact this (by rw [e]; exact List.mem_cons_self)
  have hHr : H ∉ r := (List.nodup_cons.mp (List.nodup_cons.mp hnd2.2.1).2).1
  have hHl : H ∉ l := fun h => hnd2.2.2 H h H (by simp) rfl
  have hbl : b ∉ l := fun h => hnd2.2.2 b h b (by simp) rfl
  have hbr : b ∉ r := fun h => (List.nodup_cons.mp hnd2.2.1).1 (List.mem_cons_of_mem _ h)
  have hFH : F ≠ H := by
    intro e
    cases l with
    | nil => have := hc.1
             exact hbH (by omega)
    | cons x l => have := hc.1
                  have e1 : x = H := by omega
                  exact hHl (by rw [e1]; exact List.mem_cons_self)
  have hbn : b ≤ n := ((hmem b).mp (by simp)).2.1
  have hln : ∀ j ∈ l, j ≤ n := fun j hj => ((hmem j).mp (by simp [hj])).2.1
  have hrn : ∀ j ∈ r, j ≤ n := fun j hj => ((hmem j).mp (by simp [hj])).2.1
  have hPF := (hb F f1 f2).1
  have hPH := (hb H g1 g2).1
  have nFu : ¬ bh P F u := fun h => by have := bh_le hb u hu h; omega
  have nHu : ¬ bh P H u := fun h => by have := bh_le hb u hu h; omega
  have eFu : (P F).toNat = u := by omega
  have eHu : (P H).toNat = u := by omega
  have nFH : ¬ bh P F H := fun h => by
    rcases (bh_step hb g1 g2).mp h with h | h
    · exact hFH h.symm
    · rw [eHu] at h; exact nFu h
  have nHF : ¬ bh P H F := fun h => by
    rcases (bh_step hb f1 f2).mp h with h | h
    · exact hFH h
    · rw [eFu] at h; exact nHu h
  have dF : D F = D u := by
    have := hd.2.1 F f1 f2
    rw [eFu, if_pos hF] at this
    omega
  have dH : D H = D u + 1 := by
    have := hd.2.1 H g1 g2
    rw [eHu, if_neg (by rw [hF]; omega)] at this
    exact this
  refine ⟨hb, fun p => if p = u then H :: (l ++ b :: r) else L p, fun k => by classical exact if bh P F k then D k + 1 else if bh P H k then D k - 1 else D k, fun p hp => ?_, ?_, fun k h1 h2 => ?_, fun k hk => ?_⟩
  · dsimp only
    by_cases e : p = u
    · subst e
      rw [if_pos rfl]
      refine ⟨⟨eCu, ?_⟩, ?_, fun k => ?_⟩
      · rw [eNH]
        have h5 : chn N (l ++ b :: H :: r) (F : Int) := by rw [← hF]; exact hc
        exact chn_del eNb (fun j hj => eN j (hrn j hj) (fun e => hbr (e ▸ hj)) (fun e => hHr (e ▸ hj))) l _ (fun j hj => eN j (hln j hj) (fun e => hbl (e ▸ hj)) (fun e => hHl (e ▸ hj))) h5
      · refine List.nodup_cons.mpr ⟨by simp [hHl, hHr, Ne.symm hbH], ?_⟩
        refine List.nodup_append.mpr ⟨hnd2.1, List.nodup_cons.mpr ⟨hbr, (List.nodup_cons.mp (List.nodup_cons.mp hnd2.2.1).2).2⟩, fun x hx y hy => hnd2.2.2 x hx y ?_⟩
        rcases List.mem_cons.mp hy with h | h
        · rw [h]; exact List.mem_cons_self
        · exact List.mem_cons_of_mem _ (List.mem_cons_of_mem _ h)
      · rw [← hmem k]
        simp only [List.mem_cons, List.mem_append]
        constructor
        · intro h; rcases h with h | h | h | h
          · exact Or.inr (Or.inr (Or.inl h))
          · exact Or.inl h
          · exact Or.inr (Or.inl h)
          · exact Or.inr (Or.inr (Or.inr h))
        · intro h; rcases h with h | h | h | h
          · exact Or.inr (Or.inl h)
          · exact Or.inr (Or.inr (Or.inl h))
          · exact Or.inl h
          · exact Or.inr (Or.inr (Or.inr h))
    · rw [if_neg e]
      obtain ⟨a, c, d⟩ := hl p hp
      refine ⟨?_, c, d⟩
      rw [eC p hp e]
      refine chn_congr (fun j hj => ?_) a
      have h6 := (d j).mp hj
      have h7 := (hmem b).mp (by simp)
      exact eN j h6.2.1 (fun e1 => by subst e1; omega) (fun e1 => by subst e1; omega)
  · dsimp only
    rw [if_neg (fun h => by have : 0 = F := h; omega), if_neg (fun h => by have : 0 = H := h; omega)]
    exact hd.1
  · have h3 := (hb k h1 h2).1
    dsimp only
    by_cases eF : k = F
    · subst eF
      rw [eFu, if_pos ((bh_step hb h1 h2).mpr (Or.inl rfl)), if_neg nFu, if_neg nHu, if_neg (by rw [eCu]; omega), dF]
    · by_cases eH : k = H
      · subst eH
        rw [eHu, if_neg nFH, if_pos ((bh_step hb h1 h2).mpr (Or.inl rfl)), if_neg nFu, if_neg nHu, if_pos eCu, dH]
        omega
      · have iF : bh P F k ↔ bh P F (P k).toNat := by
          rw [bh_step hb h1 h2]
          exact ⟨fun h => h.elim (fun h => absurd h eF) id, Or.inr⟩
        have iH : bh P H k ↔ bh P H (P k).toNat := by
          rw [bh_step hb h1 h2]
          exact ⟨fun h => h.elim (fun h => absurd h eH) id, Or.inr⟩
        have ind : (if C' (P k).toNat = (k : Int) then 0 else 1) = (if C (P k).toNat = (k : Int) then 0 else 1) := by
          by_cases e4 : (P k).toNat = u
          · rw [e4, eCu, hF, if_neg (by omega), if_neg (by omega)]
          · rw [eC _ (by omega) e4]
        rw [ind]
        have hk := hd.2.1 k h1 h2
        by_cases c1 : bh P F k
        · rw [if_pos c1, if_pos (iF.mp c1), hk]; omega
        · rw [if_neg c1, if_neg (fun h => c1 (iF.mpr h))]
          by_cases c2 : bh P H k
          · rw [if_pos c2, if_pos (iH.mp c2), hk]
            have h8 := bh_D hb hd _ (by omega) (iH.mp c2)
            omega
          · rw [if_neg c2, if_neg (fun h => c2 (iH.mpr h))]
            exact hk
  · dsimp only
    have h9 := hd.2.2 k hk
    by_cases c1 : bh P F k
    · rw [if_pos c1]
      by_cases k0 : k = 0
      · subst k0; have : 0 = F := c1; omega
      · have := hchk k (by omega) hk c1
        omega
    · rw [if_neg c1]
      by_cases c2 : bh P H k
      · rw [if_pos c2]; omega
      · rw [if_neg c2]; exact h9
/-- the nodes behind p -/
noncomputable def dsc (L : Nat → List Nat) : Nat → Nat → List Nat
  | 0, _ => []
  | m + 1, p => (L p).flatMap (fun x => x :: dsc L m x)
theorem dsc_gt {n : Nat} {P M C N : Nat → Int} {L : Nat → List Nat} (hb : TTb n P M) (hl : TTl n P C N L) : ∀ m p, p ≤ n → ∀ k ∈ dsc L m p, p < k ∧ k ≤ n := by
  intro m
  induction m with
  | zero => intro p _ k hk; cases hk
  | succ m ih =>
    intro p hp k hk
    obtain ⟨x, hx, hk⟩ := List.mem_flatMap.mp hk
    obtain ⟨x1, x2, x3⟩ := ((hl p hp).2.2 x).mp hx
    have := (hb x x1 x2).1
    rcases List.mem_cons.mp hk with h | h
    · subst h; omega
    · have := ih x x2 k h
      omega
theorem dsc_up {n : Nat} {P M C N : Nat → Int} {L : Nat → List Nat} (hb : TTb n P M) (hl : TTl n P C N L) : ∀ m p, p ≤ n → ∀ k ∈ dsc L m p, (P k).toNat ∈ p :: dsc L m p := by
  intro m
  induction m with
  | zero => intro p _ k hk; cases hk
  | succ m ih =>
    intro p hp k hk
    obtain ⟨x, hx, hk⟩ := List.mem_flatMap.mp hk
    obtain ⟨x1, x2, x3⟩ := ((hl p hp).2.2 x).mp hx
    rcases List.mem_cons.mp hk with h | h
    · subst h
      have : (P k).toNat = p := by omega
      rw [this]; exact List.mem_cons_self
    · exact List.mem_cons_of_mem _ (List.mem_flatMap.mpr ⟨x, hx, ih x x2 k h⟩)
theorem dsc_one {n : Nat} {P M C N : Nat → Int} {L : Nat → List Nat} (hb : TTb n P M) (hl : TTl n P C N L) {m p x y : Nat} (hp : p ≤ n) (hx : x ∈ L p) (hy : y ∈ L p) : ∀ k, k ∈ x :: dsc L m x → k ∈ y :: dsc L m y → x = y := by
  obtain ⟨x1, x2, x3⟩ := ((hl p hp).2.2 x).mp hx
  obtain ⟨y1, y2, y3⟩ := ((hl p hp).2.2 y).mp hy
  have hx4 := (hb x x1 x2).1
  have hy4 := (hb y y1 y2).1
  intro k
  induction k using Nat.strongRecOn with
  | ind k ih =>
    intro h1 h2
    rcases List.mem_cons.mp h1 with h1 | h1 <;> rcases List.mem_cons.mp h2 with h2 | h2
    · rw [← h1, h2]
    · have h3 := dsc_up hb hl m y y2 k h2
      rw [h1] at h3
      have h4 : p ∈ y :: dsc L m y := by
        have : (P x).toNat = p := by omega
        rw [this] at h3; exact h3
      rcases List.mem_cons.mp h4 with h5 | h5
      · omega
      · have := dsc_gt hb hl m y y2 p h5
        omega
    · have h3 := dsc_up hb hl m x x2 k h1
      rw [h2] at h3
      have h4 : p ∈ x :: dsc L m x := by
        have : (P y).toNat = p := by omega
        rw [this] at h3; exact h3
      rcases List.mem_cons.mp h4 with h5 | h5
      · omega
      · have := dsc_gt hb hl m x x2 p h5
        omega
    · have a := dsc_gt hb hl m x x2 k h1
      have c := (hb k (by omega) a.2).1
      exact ih (P k).toNat (by omega) (dsc_up hb hl m x x2 k h1) (dsc_up hb hl m y y2 k h2)
theorem dsc_nodup {n : Nat} {P M C N : Nat → Int} {L : Nat → List Nat} (hb : TTb n P M) (hl : TTl n P C N L) : ∀ m p, p ≤ n → (dsc L m p).Nodup := by
  intro m
  induction m with
  | zero => intro p _; exact List.nodup_nil
  | succ m ih =>
    intro p hp
    refine List.pairwise_flatMap.mpr ⟨fun x hx => ?_, ?_⟩
    · obtain ⟨x1, x2, x3⟩ := ((hl p hp).2.2 x).mp hx
      refine List.nodup_cons.mpr ⟨fun h => ?_, ih x x2⟩
      have := dsc_gt hb hl m x x2 x h
      omega
    · refine List.Pairwise.imp_of_mem ?_ (hl p hp).2.1
      intro x y hx hy hne a ha b hb' e
      subst e
      exact hne (dsc_one hb hl hp hx hy a ha hb')
theorem pig : ∀ (n : Nat) (l : List Nat), l.Nodup → (∀ k ∈ l, 1 ≤ k ∧ k ≤ n) → l.length ≤ n := by
  intro n
  induction n with
  | zero =>
    intro l _ h
    cases l with
    | nil => exact Nat.le_refl _
    | cons x l => have := h x List.mem_cons_self; omega
  | succ n ih =>
    intro l hnd h
    by_cases hm : n + 1 ∈ l
    · have h1 := ih (l.erase (n + 1)) (hnd.erase _) (fun k hk => by
        have h2 := (hnd.mem_erase_iff).mp hk
        have h3 := h k h2.2
        omega)
      rw [List.length_erase_of_mem hm] at h1
      have h4 : 0 < l.length := List.length_pos_of_mem hm
      omega
    · have h1 := ih l hnd (fun k hk => by
        have h2 := h k hk
        have : k ≠ n + 1 := fun e => hm (e ▸ hk)
        omega)
      omega
theorem dsc_len {n : Nat} {P M C N : Nat → Int} {L : Nat → List Nat} (hb : TTb n P M) (hl : TTl n P C N L) (m : Nat) : (dsc L m 0).length ≤ n := pig n _ (dsc_nodup hb hl m 0 (Nat.zero_le _)) (fun k hk => by
  have := dsc_gt hb hl m 0 (Nat.zero_le _) k hk
  omega)
end
section
noncomputable def TRn (A : Nat → Nat → Int32) (g n : Nat) : Prop := TTb n (aP A g) (aM A g)
noncomputable def TRE (A : Nat → Nat → Int32) (g : Nat) : Prop := TT (aK A g) (aP A g) (aM A g) (aC A g) (aN A g)
noncomputable def pth (A : Nat → Nat → Int32) (g : Nat) (m : Int) : Prop := ∀ i : Nat, (i : Int) < m → 0 ≤ (A 34 i).toInt ∧ 0 ≤ aM A g (A 34 i).toInt.toNat
theorem TRn_fr {A A' : Nat → Nat → Int32} {g n : Nat} (e8 : A' 8 = A 8) (e9 : A' 9 = A 9) (h : TRn A g n) : TRn A' g n := by
  intro k h1 h2
  unfold aP aM
  rw [e8, e9]
  exact h k h1 h2
theorem TRE_fr {A A' : Nat → Nat → Int32} {g : Nat} (e7 : A' 7 = A 7) (e8 : A' 8 = A 8) (e9 : A' 9 = A 9) (e10 : A' 10 = A 10) (e11 : A' 11 = A 11) (h : TRE A g) : TRE A' g := by
  unfold TRE aK
  rw [e7]
  refine TT_congr h (fun k _ => ⟨?_, ?_, ?_, ?_⟩)
  · unfold aP; rw [e8]
  · unfold aM; rw [e9]
  · unfold aC; rw [e10]
  · unfold aN; rw [e11]
noncomputable def TRH (A : Nat → Nat → Int32) (g n : Nat) : Prop := TRE A g ∧ aK A g = n
theorem TRH_fr {A A' : Nat → Nat → Int32} {g n : Nat} (e7 : A' 7 = A 7) (e8 : A' 8 = A 8) (e9 : A' 9 = A 9) (e10 : A' 10 = A 10) (e11 : A' 11 = A 11) (h : TRH A g n) : TRH A' g n := ⟨TRE_fr e7 e8 e9 e10 e11 h.1, by unfold aK; rw [e7]; exact h.2⟩
theorem pth_fr {A A' : Nat → Nat → Int32} {g : Nat} {m : Int} (e9 : A' 9 = A 9) (e34 : A' 34 = A 34) (h : pth A g m) : pth A' g m := by
  intro i hi
  unfold aM
  rw [e9, e34]
  exact h i hi
theorem pth_le {A : Nat → Nat → Int32} {g : Nat} {m m' : Int} (hm : m' ≤ m) (h : pth A g m) : pth A g m' := fun i hi => h i (by omega)
theorem pth_up {A A1 : Nat → Nat → Int32} {g i : Nat} {m : Int} {x : Int32} (h : pth A g m) (e : A1 = va_up A 34 (upd (A 34) i x)) (hi : (i : Int) = m) (hx : 0 ≤ x.toInt) (hm : 0 ≤ aM A g x.toInt.toNat) : pth A1 g (m + 1) := by
  intro j hj
  have e9 : A1 9 = A 9 := by rw [e]; exact va_up_ne _ _ (by decide)
  have e34 : A1 34 = upd (A 34) i x := by rw [e]; exact va_up_self _ _ _
  unfold aM
  rw [e9, e34]
  by_cases c : j = i
  · rw [c, upd_self]; exact ⟨hx, hm⟩
  · rw [upd_ne c]; exact h j (by omega)
theorem TRE_n {A : Nat → Nat → Int32} {g : Nat} (h : TRE A g) : TRn A g (aK A g) := h.1
theorem bh_self {n : Nat} {P M : Nat → Int} (hb : TTb n P M) {k : Nat} (hk : k ≤ n) : bh P k k := by
  cases k with
  | zero => rfl
  | succ k => exact (bh_step hb (by omega) hk).mpr (Or.inl rfl)
theorem t_place_147s {gg nn : Nat} {I : Nat → Int32} {A : Nat → Nat → Int32} {self147 : Int32 → Int32 → (Nat → Int32) → (Nat → Nat → Int32) → Option (Int32 × MS)} {N147 : Nat} (hself147 : ∀ (x1 : Int32) (x4 : Int32) (I : Nat → Int32) (A : Nat → Nat → Int32), TJ I → TK A → ((0 : Int) ≤ x1.toInt ∧ x1.toInt ≤ (1 : Int)) → ((-1 : Int) ≤ x4.toInt ∧ x4.toInt ≤ (299 : Int)) → (x1.toInt = (gg : Int)) → (pth A gg (x4.toInt + 1)) → ((I 29).toInt ≤ 1299 - x4.toInt) → (x4.toInt + 2) < (N147 : Int) → Ok (self147 x1 x4 I A) (fun o => TJ o.2.1 ∧ TK o.2.2 ∧ ((o.2.1 29).toInt ≤ 1999))) {x1 : Int32} {x4 : Int32} (hI : TJ I) (hA : TK A) (r_x1 : (0 : Int) ≤ x1.toInt ∧ x1.toInt ≤ (1 : Int)) (r_x4 : (-1 : Int) ≤ x4.toInt ∧ x4.toInt ≤ (299 : Int)) (q0 : x1.toInt = (gg : Int)) (q1 : pth A gg (x4.toInt + 1)) (q2 : (I 29).toInt ≤ 1299 - x4.toInt) (m147 : (x4.toInt + 2) ≤ (N147 : Int)) : Ok (f_place_147s self147 x1 x4 I A) (fun o => TJ o.2.1 ∧ TK o.2.2 ∧ ((o.2.1 29).toInt ≤ 1999)) := by
  unfold f_place_147s
  have b_I_29 := tI_29 hI
  refine ok_if (fun c1 => ?_) (fun c1 => ?_)
  ·
    replace c1 := ti_ltP c1 rfl (show (0 : Int32).toInt = 0 from rfl)
    obtain ⟨⟨r1, Ic1, Ac1⟩, h_r1, hI_Ic1, hA_Ac1, -⟩ := t_findMoves   hI hA (by omega)
    replace hI_Ic1 : TJ Ic1 := hI_Ic1
    replace hA_Ac1 : TK Ac1 := hA_Ac1
    refine ok_clR h_r1 ?_
    have f_r1 := fw_findMoves h_r1
    have : (Ic1 29).toInt = (I 29).toInt := congrArg Int32.toInt (f_r1.1 29 (by decide))
    have k2 : pth Ac1 gg (x4.toInt + 1) := pth_fr (f_r1.2 9 (by decide)) (f_r1.2 34 (by decide)) q1
    exact ok_ret ⟨hI_Ic1, hA_Ac1, (by show (Ic1 29).toInt ≤ 1999; have z : (0 : Int32).toInt = 0 := rfl; omega)⟩
  ·
    replace c1 := ti_ltN c1 rfl (show (0 : Int32).toInt = 0 from rfl)
    refine ok_bnd (fun v2 e3 => ?_)
    have t_v2 : v2.toInt = 301 * x1.toInt := ti_mul e3 (show (301 : Int32).toInt = 301 from rfl) rfl (by omega) (by omega)
    refine ok_chk (ti_in (by omega) (by omega)) ?_
    refine ok_bnd (fun v3 e4 => ?_)
    have b_v3 := tA_34 hA ((x4).toNatClampNeg)
    rw [← e4] at b_v3
    have n3 := ti_nc (a := x4) (by omega)
    have hp := q1 x4.toNatClampNeg (by omega)
    rw [← e4] at hp
    refine ok_bnd (fun v4 e5 => ?_)
    have t_v4 : v4.toInt = v2.toInt + v3.toInt := ti_add e5 rfl rfl (by omega) (by omega)
    refine ok_chk (ti_in (by omega) (by omega)) ?_
    refine ok_bnd (fun v5 e6 => ?_)
    have b_v5 := tA_9 hA ((v4).toNatClampNeg)
    rw [← e6] at b_v5
    have i5 : v4.toNatClampNeg = 301 * gg + v3.toInt.toNat := by have := ti_nc (a := v4) (by omega); omega
    have w5 : v5.toInt = aM A gg v3.toInt.toNat := by rw [e6, i5]; rfl
    obtain ⟨⟨r6, Ic6, Ac6⟩, h_r6, hI_Ic6, hA_Ac6, p_r6_0⟩ := t_make (x1 := v5)  hI hA (by omega) (show (I 29).toInt ≤ (I 29).toInt ∧ (I 29).toInt ≤ 1999 from ⟨Int.le_refl _, by omega⟩)
    replace hI_Ic6 : TJ Ic6 := hI_Ic6
    replace hA_Ac6 : TK Ac6 := hA_Ac6
    dsimp only at p_r6_0
    refine ok_clR h_r6 ?_
    have f_r6 := fw_make h_r6
    have k7 : pth Ac6 gg (x4.toInt + 1) := pth_fr (f_r6.2 9 (by decide)) (f_r6.2 34 (by decide)) q1
    refine ok_bnd (fun v7 e8 => ?_)
    have t_v7 : v7.toInt = x4.toInt + (-1) := ti_add e8 rfl (show (-1 : Int32).toInt = -1 from rfl) (by omega) (by omega)
    have b_Ic6_29 := tI_29 hI_Ic6
    exact hself147 x1 v7 Ic6 Ac6 hI_Ic6 hA_Ac6 r_x1 (by omega) q0 (pth_le (by omega) k7) (by omega) (by omega)
theorem t_place_147 {gg nn : Nat}  : ∀ (n : Nat) (x1 : Int32) (x4 : Int32) (I : Nat → Int32) (A : Nat → Nat → Int32), TJ I → TK A → ((0 : Int) ≤ x1.toInt ∧ x1.toInt ≤ (1 : Int)) → ((-1 : Int) ≤ x4.toInt ∧ x4.toInt ≤ (299 : Int)) → (x1.toInt = (gg : Int)) → (pth A gg (x4.toInt + 1)) → ((I 29).toInt ≤ 1299 - x4.toInt) → (x4.toInt + 2) < (n : Int) → Ok (f_place_147  n x1 x4 I A) (fun o => TJ o.2.1 ∧ TK o.2.2 ∧ ((o.2.1 29).toInt ≤ 1999)) := by
  intro n
  induction n with
  | zero => intro x1 x4 I A hI hA g0 g1 g2 g3 g4  hm; exfalso; omega
  | succ n ih =>
    intro x1 x4 I A hI hA g0 g1 g2 g3 g4  hm
    exact t_place_147s (gg := gg) (nn := nn)  (N147 := n)  ih hI hA g0 g1 g2 g3 g4  (by omega)
theorem t_place_42s {gg nn : Nat} {I : Nat → Int32} {A : Nat → Nat → Int32} {self42 : Int32 → Int32 → Int32 → (Nat → Int32) → (Nat → Nat → Int32) → Option (Int32 × MS)} {N42 : Nat} (hself42 : ∀ (x1 : Int32) (x3 : Int32) (x4 : Int32) (I : Nat → Int32) (A : Nat → Nat → Int32), TJ I → TK A → ((0 : Int) ≤ x1.toInt ∧ x1.toInt ≤ (1 : Int)) → ((0 : Int) ≤ x3.toInt ∧ x3.toInt ≤ (300 : Int)) → ((0 : Int) ≤ x4.toInt ∧ x4.toInt ≤ (64 : Int)) → (x1.toInt = (gg : Int)) → (pth A gg x3.toInt) → (65 - x4.toInt) < (N42 : Int) → Ok (self42 x1 x3 x4 I A) (fun o => TJ o.2.1 ∧ TK o.2.2 ∧ ((o.2.1 29).toInt ≤ 1999))) {x1 : Int32} {x3 : Int32} {x4 : Int32} (hI : TJ I) (hA : TK A) (r_x1 : (0 : Int) ≤ x1.toInt ∧ x1.toInt ≤ (1 : Int)) (r_x3 : (0 : Int) ≤ x3.toInt ∧ x3.toInt ≤ (300 : Int)) (r_x4 : (0 : Int) ≤ x4.toInt ∧ x4.toInt ≤ (64 : Int)) (q0 : x1.toInt = (gg : Int)) (q1 : pth A gg x3.toInt) (m42 : (65 - x4.toInt) ≤ (N42 : Int)) : Ok (f_place_42s self42 x1 x3 x4 I A) (fun o => TJ o.2.1 ∧ TK o.2.2 ∧ ((o.2.1 29).toInt ≤ 1999)) := by
  unfold f_place_42s
  have b_I_29 := tI_29 hI
  refine ok_if (fun c9 => ?_) (fun c9 => ?_)
  ·
    replace c9 := ti_leP c9 (show (64 : Int32).toInt = 64 from rfl) rfl
    refine ok_bnd (fun v1 e10 => ?_)
    have t_v1 : v1.toInt = 5 * x1.toInt := ti_mul e10 (show (5 : Int32).toInt = 5 from rfl) rfl (by omega) (by omega)
    refine ok_chk (ti_in (by omega) (by omega)) ?_
    refine ok_bnd (fun v2 e11 => ?_)
    have b_v2 := tA_17 hA ((v1).toNatClampNeg)
    rw [← e11] at b_v2
    have n_v2 := ti_nc (a := v1) (by omega)
    refine ok_bnd (fun I3 e12 => ?_)
    have hI_I3 : TJ I3 := e12.symm ▸ tj_u hI (k := 25) (show (0 : Int) ≤ v2.toInt from (by omega)) (show v2.toInt ≤ (1 : Int) from (by omega))
    have : (I3 29).toInt = (I 29).toInt := by rw [e12]; rfl
    refine ok_bnd (fun v4 e13 => ?_)
    have t_v4 : v4.toInt = 5 * x1.toInt := ti_mul e13 (show (5 : Int32).toInt = 5 from rfl) rfl (by omega) (by omega)
    refine ok_bnd (fun v5 e14 => ?_)
    have t_v5 : v5.toInt = v4.toInt + 1 := ti_add e14 rfl (show (1 : Int32).toInt = 1 from rfl) (by omega) (by omega)
    refine ok_chk (ti_in (by omega) (by omega)) ?_
    refine ok_bnd (fun v6 e15 => ?_)
    have b_v6 := tA_17 hA ((v5).toNatClampNeg)
    rw [← e15] at b_v6
    have n_v6 := ti_nc (a := v5) (by omega)
    refine ok_bnd (fun I7 e16 => ?_)
    have hI_I7 : TJ I7 := e16.symm ▸ tj_w hI_I3 (k := 26) rfl
    have : (I7 29).toInt = (I3 29).toInt := by rw [e16]; rfl
    refine ok_bnd (fun v8 e17 => ?_)
    have t_v8 : v8.toInt = 5 * x1.toInt := ti_mul e17 (show (5 : Int32).toInt = 5 from rfl) rfl (by omega) (by omega)
    refine ok_bnd (fun v9 e18 => ?_)
    have t_v9 : v9.toInt = v8.toInt + 2 := ti_add e18 rfl (show (2 : Int32).toInt = 2 from rfl) (by omega) (by omega)
    refine ok_chk (ti_in (by omega) (by omega)) ?_
    refine ok_bnd (fun v10 e19 => ?_)
    have b_v10 := tA_17 hA ((v9).toNatClampNeg)
    rw [← e19] at b_v10
    have n_v10 := ti_nc (a := v9) (by omega)
    refine ok_bnd (fun I11 e20 => ?_)
    have hI_I11 : TJ I11 := e20.symm ▸ tj_w hI_I7 (k := 27) rfl
    have : (I11 29).toInt = (I7 29).toInt := by rw [e20]; rfl
    refine ok_bnd (fun v12 e21 => ?_)
    have t_v12 : v12.toInt = 5 * x1.toInt := ti_mul e21 (show (5 : Int32).toInt = 5 from rfl) rfl (by omega) (by omega)
    refine ok_bnd (fun v13 e22 => ?_)
    have t_v13 : v13.toInt = v12.toInt + 3 := ti_add e22 rfl (show (3 : Int32).toInt = 3 from rfl) (by omega) (by omega)
    refine ok_chk (ti_in (by omega) (by omega)) ?_
    refine ok_bnd (fun v14 e23 => ?_)
    have b_v14 := tA_17 hA ((v13).toNatClampNeg)
    rw [← e23] at b_v14
    have n_v14 := ti_nc (a := v13) (by omega)
    refine ok_bnd (fun I15 e24 => ?_)
    have hI_I15 : TJ I15 := e24.symm ▸ tj_w hI_I11 (k := 28) rfl
    have : (I15 29).toInt = (I11 29).toInt := by rw [e24]; rfl
    refine ok_bnd (fun v16 e25 => ?_)
    have t_v16 : v16.toInt = 5 * x1.toInt := ti_mul e25 (show (5 : Int32).toInt = 5 from rfl) rfl (by omega) (by omega)
    refine ok_bnd (fun v17 e26 => ?_)
    have t_v17 : v17.toInt = v16.toInt + 4 := ti_add e26 rfl (show (4 : Int32).toInt = 4 from rfl) (by omega) (by omega)
    refine ok_chk (ti_in (by omega) (by omega)) ?_
    refine ok_bnd (fun v18 e27 => ?_)
    have b_v18 := tA_17 hA ((v17).toNatClampNeg)
    rw [← e27] at b_v18
    have n_v18 := ti_nc (a := v17) (by omega)
    refine ok_bnd (fun I19 e28 => ?_)
    have hI_I19 : TJ I19 := e28.symm ▸ tj_u hI_I15 (k := 29) (show (-1 : Int) ≤ v18.toInt from (by omega)) (show v18.toInt ≤ (2000 : Int) from (by omega))
    have : (I19 29).toInt = v18.toInt := by rw [e28]; exact rfl
    refine ok_bnd (fun v20 e29 => ?_)
    have t_v20 : v20.toInt = x3.toInt - 1 := ti_sub e29 rfl (show (1 : Int32).toInt = 1 from rfl) (by omega) (by omega)
    have b_I19_29 := tI_29 hI_I19
    exact t_place_147 (gg := gg) (nn := nn)    mFuel x1 v20 I19 A hI_I19 hA r_x1 (by omega) q0 (pth_le (by omega) q1) (by omega) (by show _ < ((200000 : Nat) : Int); omega)
  ·
    replace c9 := ti_leN c9 (show (64 : Int32).toInt = 64 from rfl) rfl
    refine ok_bnd (fun v21 e30 => ?_)
    have t_v21 : v21.toInt = 64 * x1.toInt := ti_mul e30 (show (64 : Int32).toInt = 64 from rfl) rfl (by omega) (by omega)
    refine ok_bnd (fun v22 e31 => ?_)
    have t_v22 : v22.toInt = v21.toInt + x4.toInt := ti_add e31 rfl rfl (by omega) (by omega)
    refine ok_chk (ti_in (by omega) (by omega)) ?_
    refine ok_bnd (fun v23 e32 => ?_)
    refine ok_chk (ti_in (by omega) (by omega)) ?_
    refine ok_bnd (fun A24 e33 => ?_)
    have hA_A24 : TK A24 := e33.symm ▸ tk_w hA (j := 24) rfl
    have k34 : pth A24 gg x3.toInt := pth_fr (show A24 9 = A 9 by rw [e33]; exact va_up_ne _ _ (by decide)) (show A24 34 = A 34 by rw [e33]; exact va_up_ne _ _ (by decide)) q1
    refine ok_bnd (fun v25 e35 => ?_)
    have t_v25 : v25.toInt = x4.toInt + 1 := ti_add e35 rfl (show (1 : Int32).toInt = 1 from rfl) (by omega) (by omega)
    exact hself42 x1 x3 v25 I A24 hI hA_A24 r_x1 r_x3 (by omega) q0 k34 (by omega)
theorem t_place_42 {gg nn : Nat}  : ∀ (n : Nat) (x1 : Int32) (x3 : Int32) (x4 : Int32) (I : Nat → Int32) (A : Nat → Nat → Int32), TJ I → TK A → ((0 : Int) ≤ x1.toInt ∧ x1.toInt ≤ (1 : Int)) → ((0 : Int) ≤ x3.toInt ∧ x3.toInt ≤ (300 : Int)) → ((0 : Int) ≤ x4.toInt ∧ x4.toInt ≤ (64 : Int)) → (x1.toInt = (gg : Int)) → (pth A gg x3.toInt) → (65 - x4.toInt) < (n : Int) → Ok (f_place_42  n x1 x3 x4 I A) (fun o => TJ o.2.1 ∧ TK o.2.2 ∧ ((o.2.1 29).toInt ≤ 1999)) := by
  intro n
  induction n with
  | zero => intro x1 x3 x4 I A hI hA g0 g1 g2 g3 g4  hm; exfalso; omega
  | succ n ih =>
    intro x1 x3 x4 I A hI hA g0 g1 g2 g3 g4  hm
    exact t_place_42s (gg := gg) (nn := nn)  (N42 := n)  ih hI hA g0 g1 g2 g3 g4  (by omega)
theorem t_place_5s {gg nn : Nat} {I : Nat → Int32} {A : Nat → Nat → Int32} {self5 : Int32 → Int32 → Int32 → (Nat → Int32) → (Nat → Nat → Int32) → Option (Int32 × MS)} {N5 : Nat} (hself5 : ∀ (x1 : Int32) (x3 : Int32) (x4 : Int32) (I : Nat → Int32) (A : Nat → Nat → Int32), TJ I → TK A → ((0 : Int) ≤ x1.toInt ∧ x1.toInt ≤ (1 : Int)) → ((0 : Int) ≤ x3.toInt ∧ x3.toInt ≤ (300 : Int)) → ((0 : Int) ≤ x4.toInt ∧ x4.toInt ≤ (300 : Int)) → (TRn A gg nn) → (x1.toInt = (gg : Int)) → (x4.toInt ≤ (nn : Int)) → (x3.toInt + x4.toInt ≤ 300) → (pth A gg x3.toInt) → (x4.toInt + 1) < (N5 : Int) → Ok (self5 x1 x3 x4 I A) (fun o => TJ o.2.1 ∧ TK o.2.2 ∧ ((o.2.1 29).toInt ≤ 1999))) {x1 : Int32} {x3 : Int32} {x4 : Int32} (hI : TJ I) (hA : TK A) (r_x1 : (0 : Int) ≤ x1.toInt ∧ x1.toInt ≤ (1 : Int)) (r_x3 : (0 : Int) ≤ x3.toInt ∧ x3.toInt ≤ (300 : Int)) (r_x4 : (0 : Int) ≤ x4.toInt ∧ x4.toInt ≤ (300 : Int)) (q0 : TRn A gg nn) (q1 : x1.toInt = (gg : Int)) (q2 : x4.toInt ≤ (nn : Int)) (q3 : x3.toInt + x4.toInt ≤ 300) (q4 : pth A gg x3.toInt) (m5 : (x4.toInt + 1) ≤ (N5 : Int)) : Ok (f_place_5s self5 x1 x3 x4 I A) (fun o => TJ o.2.1 ∧ TK o.2.2 ∧ ((o.2.1 29).toInt ≤ 1999)) := by
  unfold f_place_5s
  have b_I_29 := tI_29 hI
  refine ok_if (fun c36 => ?_) (fun c36 => ?_)
  ·
    replace c36 := ti_leP c36 rfl (show (0 : Int32).toInt = 0 from rfl)
    exact t_place_42 (gg := gg) (nn := nn)    mFuel x1 x3 (0 : Int32) I A hI hA r_x1 r_x3 (by decide) q1 q4 (by show _ < ((200000 : Nat) : Int); have z0 : (0 : Int32).toInt = 0 := rfl; omega)
  ·
    replace c36 := ti_leN c36 rfl (show (0 : Int32).toInt = 0 from rfl)
    refine ok_chk (ti_in (by omega) (by omega)) ?_
    refine ok_bnd (fun A1 e37 => ?_)
    have hA_A1 : TK A1 := e37.symm ▸ tk_u hA (j := 34) (show (0 : Int) ≤ x4.toInt from (by omega)) (show x4.toInt ≤ (300 : Int) from (by omega))
    have k38 : TRn A1 gg nn := TRn_fr (show A1 8 = A 8 by rw [e37]; exact va_up_ne _ _ (by decide)) (show A1 9 = A 9 by rw [e37]; exact va_up_ne _ _ (by decide)) q0
    refine ok_bnd (fun v2 e39 => ?_)
    have t_v2 : v2.toInt = x3.toInt + 1 := ti_add e39 rfl (show (1 : Int32).toInt = 1 from rfl) (by omega) (by omega)
    refine ok_bnd (fun v3 e40 => ?_)
    have t_v3 : v3.toInt = 301 * x1.toInt := ti_mul e40 (show (301 : Int32).toInt = 301 from rfl) rfl (by omega) (by omega)
    refine ok_bnd (fun v4 e41 => ?_)
    have t_v4 : v4.toInt = v3.toInt + x4.toInt := ti_add e41 rfl rfl (by omega) (by omega)
    refine ok_chk (ti_in (by omega) (by omega)) ?_
    refine ok_bnd (fun v5 e42 => ?_)
    have b_v5 := tA_8 hA_A1 ((v4).toNatClampNeg)
    rw [← e42] at b_v5
    have hp := q0 x4.toInt.toNat (by omega) (by omega)
    have i5 : v4.toNatClampNeg = 301 * gg + x4.toInt.toNat := by have := ti_nc (a := v4) (by omega); omega
    have w5 : v5.toInt = aP A gg x4.toInt.toNat := by rw [e42, e37, va_up_ne _ _ (by decide), i5]; rfl
    exact hself5 x1 v2 v5 I A1 hI hA_A1 r_x1 (by omega) (by omega) k38 q1 (by omega) (by omega) (by rw [t_v2]; exact pth_up q4 e37 (ti_nc (by omega)) (by omega) hp.2) (by omega)
theorem t_place_5 {gg nn : Nat}  : ∀ (n : Nat) (x1 : Int32) (x3 : Int32) (x4 : Int32) (I : Nat → Int32) (A : Nat → Nat → Int32), TJ I → TK A → ((0 : Int) ≤ x1.toInt ∧ x1.toInt ≤ (1 : Int)) → ((0 : Int) ≤ x3.toInt ∧ x3.toInt ≤ (300 : Int)) → ((0 : Int) ≤ x4.toInt ∧ x4.toInt ≤ (300 : Int)) → (TRn A gg nn) → (x1.toInt = (gg : Int)) → (x4.toInt ≤ (nn : Int)) → (x3.toInt + x4.toInt ≤ 300) → (pth A gg x3.toInt) → (x4.toInt + 1) < (n : Int) → Ok (f_place_5  n x1 x3 x4 I A) (fun o => TJ o.2.1 ∧ TK o.2.2 ∧ ((o.2.1 29).toInt ≤ 1999)) := by
  intro n
  induction n with
  | zero => intro x1 x3 x4 I A hI hA g0 g1 g2 g3 g4 g5 g6 g7  hm; exfalso; omega
  | succ n ih =>
    intro x1 x3 x4 I A hI hA g0 g1 g2 g3 g4 g5 g6 g7  hm
    exact t_place_5s (gg := gg) (nn := nn)  (N5 := n)  ih hI hA g0 g1 g2 g3 g4 g5 g6 g7  (by omega)
theorem t_place_0 {gg nn : Nat} {I : Nat → Int32} {A : Nat → Nat → Int32} {x1 : Int32} {x2 : Int32} (hI : TJ I) (hA : TK A) (r_x1 : (0 : Int) ≤ x1.toInt ∧ x1.toInt ≤ (1 : Int)) (r_x2 : (0 : Int) ≤ x2.toInt ∧ x2.toInt ≤ (300 : Int)) (q0 : TRn A gg nn) (q1 : x1.toInt = (gg : Int)) (q2 : x2.toInt ≤ (nn : Int)) : Ok (f_place_0 x1 x2 I A) (fun o => TJ o.2.1 ∧ TK o.2.2 ∧ ((o.2.1 29).toInt ≤ 1999)) := by
  unfold f_place_0
  have b_I_29 := tI_29 hI
  exact t_place_5 (gg := gg) (nn := nn)    mFuel x1 (0 : Int32) x2 I A hI hA r_x1 (by decide) r_x2 q0 q1 q2 (by have z0 : (0 : Int32).toInt = 0 := rfl; omega) (fun i hi => by have z0 : (0 : Int32).toInt = 0 := rfl; omega) (by show _ < ((200000 : Nat) : Int); have z0 : (0 : Int32).toInt = 0 := rfl; omega)
theorem t_place {gg nn : Nat} {I : Nat → Int32} {A : Nat → Nat → Int32} {x1 : Int32} {x2 : Int32} (hI : TJ I) (hA : TK A) (r_x1 : (0 : Int) ≤ x1.toInt ∧ x1.toInt ≤ (1 : Int)) (r_x2 : (0 : Int) ≤ x2.toInt ∧ x2.toInt ≤ (300 : Int)) (q0 : TRn A gg nn) (q1 : x1.toInt = (gg : Int)) (q2 : x2.toInt ≤ (nn : Int)) : Ok (f_place x1 x2 I A) (fun o => TJ o.2.1 ∧ TK o.2.2 ∧ ((o.2.1 29).toInt ≤ 1999)) := t_place_0 (gg := gg) (nn := nn) hI hA r_x1 r_x2 q0 q1 q2
theorem t_isFirst_0 {gg nn : Nat} {I : Nat → Int32} {A : Nat → Nat → Int32} {x1 : Int32} {x2 : Int32} (hI : TJ I) (hA : TK A) (r_x1 : (0 : Int) ≤ x1.toInt ∧ x1.toInt ≤ (1 : Int)) (r_x2 : (1 : Int) ≤ x2.toInt ∧ x2.toInt ≤ (300 : Int)) (q0 : TRn A gg nn) (q1 : x1.toInt = (gg : Int)) (q2 : x2.toInt ≤ (nn : Int)) : Ok (f_isFirst_0 x1 x2 I A) (fun o => o.2 = (I, A) ∧ ((0 : Int) ≤ o.1.toInt ∧ o.1.toInt ≤ (1 : Int)) ∧ ((o.1.toInt = 1 → aC A gg (aP A gg x2.toInt.toNat).toNat = x2.toInt) ∧ (o.1.toInt = 0 → aC A gg (aP A gg x2.toInt.toNat).toNat ≠ x2.toInt))) := by
  unfold f_isFirst_0
  refine ok_bnd (fun v1 e43 => ?_)
  have t_v1 : v1.toInt = 301 * x1.toInt := ti_mul e43 (show (301 : Int32).toInt = 301 from rfl) rfl (by omega) (by omega)
  refine ok_bnd (fun v2 e44 => ?_)
  have t_v2 : v2.toInt = 301 * x1.toInt := ti_mul e44 (show (301 : Int32).toInt = 301 from rfl) rfl (by omega) (by omega)
  refine ok_bnd (fun v3 e45 => ?_)
  have t_v3 : v3.toInt = v2.toInt + x2.toInt := ti_add e45 rfl rfl (by omega) (by omega)
  refine ok_chk (ti_in (by omega) (by omega)) ?_
  refine ok_bnd (fun v4 e46 => ?_)
  have b_v4 := tA_8 hA ((v3).toNatClampNeg)
  rw [← e46] at b_v4
  have hp := q0 x2.toInt.toNat (by omega) (by omega)
  have i4 : v3.toNatClampNeg = 301 * gg + x2.toInt.toNat := by have := ti_nc (a := v3) (by omega); omega
  have w4 : v4.toInt = aP A gg x2.toInt.toNat := by rw [e46, i4]; rfl
  refine ok_bnd (fun v5 e47 => ?_)
  have t_v5 : v5.toInt = v1.toInt + v4.toInt := ti_add e47 rfl rfl (by omega) (by omega)
  refine ok_chk (ti_in (by omega) (by omega)) ?_
  refine ok_bnd (fun v6 e48 => ?_)
  have b_v6 := tA_10 hA ((v5).toNatClampNeg)
  rw [← e48] at b_v6
  have i6 : v5.toNatClampNeg = 301 * gg + (aP A gg x2.toInt.toNat).toNat := by have := ti_nc (a := v5) (by omega); omega
  have w6 : v6.toInt = aC A gg (aP A gg x2.toInt.toNat).toNat := by rw [e48, i6]; rfl
  refine ok_if (fun c49 => ?_) (fun c49 => ?_)
  ·
    replace c49 := ti_eqP c49 rfl rfl
    unfold f_isFirst_32
    refine ok_chk (by decide) ?_
    exact ok_ret ⟨rfl, (show (0 : Int) ≤ (1 : Int32).toInt ∧ (1 : Int32).toInt ≤ (1 : Int) from (by decide)), (by show ((1 : Int32).toInt = 1 → aC A gg (aP A gg x2.toInt.toNat).toNat = x2.toInt) ∧ ((1 : Int32).toInt = 0 → aC A gg (aP A gg x2.toInt.toNat).toNat ≠ x2.toInt); constructor <;> intro h <;> first | (exact absurd h (by decide)) | omega)⟩
  ·
    replace c49 := ti_eqN c49 rfl rfl
    unfold f_isFirst_32
    refine ok_chk (by decide) ?_
    exact ok_ret ⟨rfl, (show (0 : Int) ≤ (0 : Int32).toInt ∧ (0 : Int32).toInt ≤ (1 : Int) from (by decide)), (by show ((0 : Int32).toInt = 1 → aC A gg (aP A gg x2.toInt.toNat).toNat = x2.toInt) ∧ ((0 : Int32).toInt = 0 → aC A gg (aP A gg x2.toInt.toNat).toNat ≠ x2.toInt); constructor <;> intro h <;> first | (exact absurd h (by decide)) | omega)⟩
theorem t_isFirst {gg nn : Nat} {I : Nat → Int32} {A : Nat → Nat → Int32} {x1 : Int32} {x2 : Int32} (hI : TJ I) (hA : TK A) (r_x1 : (0 : Int) ≤ x1.toInt ∧ x1.toInt ≤ (1 : Int)) (r_x2 : (1 : Int) ≤ x2.toInt ∧ x2.toInt ≤ (300 : Int)) (q0 : TRn A gg nn) (q1 : x1.toInt = (gg : Int)) (q2 : x2.toInt ≤ (nn : Int)) : Ok (f_isFirst x1 x2 I A) (fun o => o.2 = (I, A) ∧ ((0 : Int) ≤ o.1.toInt ∧ o.1.toInt ≤ (1 : Int)) ∧ ((o.1.toInt = 1 → aC A gg (aP A gg x2.toInt.toNat).toNat = x2.toInt) ∧ (o.1.toInt = 0 → aC A gg (aP A gg x2.toInt.toNat).toNat ≠ x2.toInt))) := t_isFirst_0 (gg := gg) (nn := nn) hI hA r_x1 r_x2 q0 q1 q2
theorem t_deepOf_27 {gg nn : Nat} {dd : Nat → Nat} {tt : Int} {I : Nat → Int32} {A : Nat → Nat → Int32} {self5 : Int32 → Int32 → Int32 → (Nat → Int32) → (Nat → Nat → Int32) → Option (Int32 × MS)} {N5 : Nat} (hself5 : ∀ (x1 : Int32) (x3 : Int32) (x4 : Int32),  ((0 : Int) ≤ x1.toInt ∧ x1.toInt ≤ (1 : Int)) → ((0 : Int) ≤ x3.toInt ∧ x3.toInt ≤ (6 : Int)) → ((0 : Int) ≤ x4.toInt ∧ x4.toInt ≤ (300 : Int)) → (TRn A gg nn) → (x1.toInt = (gg : Int)) → (x4.toInt ≤ (nn : Int)) → (TTd nn (aP A gg) (aC A gg) dd) → (x3.toInt + (dd x4.toInt.toNat : Int) = tt ∧ tt ≤ 6) → (x4.toInt + 1) < (N5 : Int) → Ok (self5 x1 x3 x4 I A) (fun o => o.2 = (I, A) ∧ ((0 : Int) ≤ o.1.toInt ∧ o.1.toInt ≤ (6 : Int)) ∧ (o.1.toInt = tt))) {x1 : Int32} {x4 : Int32} {t0 : Int32} (hI : TJ I) (hA : TK A) (r_x1 : (0 : Int) ≤ x1.toInt ∧ x1.toInt ≤ (1 : Int)) (r_x4 : (1 : Int) ≤ x4.toInt ∧ x4.toInt ≤ (300 : Int)) (r_t0 : (0 : Int) ≤ t0.toInt ∧ t0.toInt ≤ (6 : Int)) (q0 : TRn A gg nn) (q1 : x1.toInt = (gg : Int)) (q2 : x4.toInt ≤ (nn : Int)) (q3 : TTd nn (aP A gg) (aC A gg) dd) (q4 : t0.toInt + (dd (aP A gg x4.toInt.toNat).toNat : Int) = tt ∧ tt ≤ 6) (m5 : (x4.toInt + 1) ≤ (N5 : Int)) : Ok (f_deepOf_27 self5 x1 x4 t0 I A) (fun o => o.2 = (I, A) ∧ ((0 : Int) ≤ o.1.toInt ∧ o.1.toInt ≤ (6 : Int)) ∧ (o.1.toInt = tt)) := by
  unfold f_deepOf_27
  refine ok_bnd (fun v1 e50 => ?_)
  have t_v1 : v1.toInt = 301 * x1.toInt := ti_mul e50 (show (301 : Int32).toInt = 301 from rfl) rfl (by omega) (by omega)
  refine ok_bnd (fun v2 e51 => ?_)
  have t_v2 : v2.toInt = v1.toInt + x4.toInt := ti_add e51 rfl rfl (by omega) (by omega)
  refine ok_chk (ti_in (by omega) (by omega)) ?_
  refine ok_bnd (fun v3 e52 => ?_)
  have b_v3 := tA_8 hA ((v2).toNatClampNeg)
  rw [← e52] at b_v3
  have hp := q0 x4.toInt.toNat (by omega) (by omega)
  have i3 : v2.toNatClampNeg = 301 * gg + x4.toInt.toNat := by have := ti_nc (a := v2) (by omega); omega
  have w3 : v3.toInt = aP A gg x4.toInt.toNat := by rw [e52, i3]; rfl
  exact hself5 x1 t0 v3 r_x1 r_t0 (by omega) q0 q1 (by omega) q3 (by rw [w3]; exact q4) (by omega)
theorem t_deepOf_5s {gg nn : Nat} {dd : Nat → Nat} {tt : Int} {I : Nat → Int32} {A : Nat → Nat → Int32} {self5 : Int32 → Int32 → Int32 → (Nat → Int32) → (Nat → Nat → Int32) → Option (Int32 × MS)} {N5 : Nat} (hself5 : ∀ (x1 : Int32) (x3 : Int32) (x4 : Int32),  ((0 : Int) ≤ x1.toInt ∧ x1.toInt ≤ (1 : Int)) → ((0 : Int) ≤ x3.toInt ∧ x3.toInt ≤ (6 : Int)) → ((0 : Int) ≤ x4.toInt ∧ x4.toInt ≤ (300 : Int)) → (TRn A gg nn) → (x1.toInt = (gg : Int)) → (x4.toInt ≤ (nn : Int)) → (TTd nn (aP A gg) (aC A gg) dd) → (x3.toInt + (dd x4.toInt.toNat : Int) = tt ∧ tt ≤ 6) → (x4.toInt + 1) < (N5 : Int) → Ok (self5 x1 x3 x4 I A) (fun o => o.2 = (I, A) ∧ ((0 : Int) ≤ o.1.toInt ∧ o.1.toInt ≤ (6 : Int)) ∧ (o.1.toInt = tt))) {x1 : Int32} {x3 : Int32} {x4 : Int32} (hI : TJ I) (hA : TK A) (r_x1 : (0 : Int) ≤ x1.toInt ∧ x1.toInt ≤ (1 : Int)) (r_x3 : (0 : Int) ≤ x3.toInt ∧ x3.toInt ≤ (6 : Int)) (r_x4 : (0 : Int) ≤ x4.toInt ∧ x4.toInt ≤ (300 : Int)) (q0 : TRn A gg nn) (q1 : x1.toInt = (gg : Int)) (q2 : x4.toInt ≤ (nn : Int)) (q3 : TTd nn (aP A gg) (aC A gg) dd) (q4 : x3.toInt + (dd x4.toInt.toNat : Int) = tt ∧ tt ≤ 6) (m5 : (x4.toInt + 1) ≤ (N5 : Int)) : Ok (f_deepOf_5s self5 x1 x3 x4 I A) (fun o => o.2 = (I, A) ∧ ((0 : Int) ≤ o.1.toInt ∧ o.1.toInt ≤ (6 : Int)) ∧ (o.1.toInt = tt)) := by
  unfold f_deepOf_5s
  have h6 := q3.2.2 x4.toInt.toNat (by omega)
  refine ok_if (fun c53 => ?_) (fun c53 => ?_)
  ·
    replace c53 := ti_leP c53 rfl (show (0 : Int32).toInt = 0 from rfl)
    have z4 : x4.toInt.toNat = 0 := by omega
    rw [z4, q3.1] at q4
    exact ok_ret ⟨rfl, (show (0 : Int) ≤ x3.toInt ∧ x3.toInt ≤ (6 : Int) from (by omega)), (by show (x3 : Int32).toInt = tt; omega)⟩
  ·
    replace c53 := ti_leN c53 rfl (show (0 : Int32).toInt = 0 from rfl)
    obtain ⟨r1, h_r1, p_r1⟩ := ro (t_isFirst (x1 := x1) (x2 := x4)  hI hA r_x1 (by omega) q0 q1 q2)
    refine ok_clR h_r1 ?_
    dsimp only at p_r1
    have hd := q3.2.1 x4.toInt.toNat (by omega) (by omega)
    have hx : ((x4.toInt.toNat : Nat) : Int) = x4.toInt := by omega
    rw [hx] at hd
    refine ok_if (fun c54 => ?_) (fun c54 => ?_)
    ·
      replace c54 := ti_eqP c54 rfl (show (0 : Int32).toInt = 0 from rfl)
      rw [if_neg (p_r1.2.2 (by omega))] at hd
      refine ok_bnd (fun v2 e55 => ?_)
      have t_v2 : v2.toInt = x3.toInt + 1 := ti_add e55 rfl (show (1 : Int32).toInt = 1 from rfl) (by omega) (by omega)
      exact t_deepOf_27 (gg := gg) (nn := nn) (dd := dd) (tt := tt)  hself5 (x1 := x1) (x4 := x4) (t0 := v2) hI hA r_x1 (by omega) (by omega) q0 q1 q2 q3 (by omega) m5
    ·
      replace c54 := ti_eqN c54 rfl (show (0 : Int32).toInt = 0 from rfl)
      rw [if_pos (p_r1.2.1 (by omega))] at hd
      exact t_deepOf_27 (gg := gg) (nn := nn) (dd := dd) (tt := tt)  hself5 (x1 := x1) (x4 := x4) (t0 := x3) hI hA r_x1 (by omega) r_x3 q0 q1 q2 q3 (by omega) m5
theorem t_deepOf_5 {gg nn : Nat} {dd : Nat → Nat} {tt : Int} {I : Nat → Int32} {A : Nat → Nat → Int32} (hI : TJ I) (hA : TK A) : ∀ (n : Nat) (x1 : Int32) (x3 : Int32) (x4 : Int32),  ((0 : Int) ≤ x1.toInt ∧ x1.toInt ≤ (1 : Int)) → ((0 : Int) ≤ x3.toInt ∧ x3.toInt ≤ (6 : Int)) → ((0 : Int) ≤ x4.toInt ∧ x4.toInt ≤ (300 : Int)) → (TRn A gg nn) → (x1.toInt = (gg : Int)) → (x4.toInt ≤ (nn : Int)) → (TTd nn (aP A gg) (aC A gg) dd) → (x3.toInt + (dd x4.toInt.toNat : Int) = tt ∧ tt ≤ 6) → (x4.toInt + 1) < (n : Int) → Ok (f_deepOf_5  n x1 x3 x4 I A) (fun o => o.2 = (I, A) ∧ ((0 : Int) ≤ o.1.toInt ∧ o.1.toInt ≤ (6 : Int)) ∧ (o.1.toInt = tt)) := by
  intro n
  induction n with
  | zero => intro x1 x3 x4 g0 g1 g2 g3 g4 g5 g6 g7  hm; exfalso; omega
  | succ n ih =>
    intro x1 x3 x4 g0 g1 g2 g3 g4 g5 g6 g7  hm
    exact t_deepOf_5s (gg := gg) (nn := nn) (dd := dd) (tt := tt)  (N5 := n)  ih hI hA g0 g1 g2 g3 g4 g5 g6 g7  (by omega)
theorem t_deepOf_0 {gg nn : Nat} {dd : Nat → Nat} {tt : Int} {I : Nat → Int32} {A : Nat → Nat → Int32} {x1 : Int32} {x2 : Int32} (hI : TJ I) (hA : TK A) (r_x1 : (0 : Int) ≤ x1.toInt ∧ x1.toInt ≤ (1 : Int)) (r_x2 : (0 : Int) ≤ x2.toInt ∧ x2.toInt ≤ (300 : Int)) (q0 : TRn A gg nn) (q1 : x1.toInt = (gg : Int)) (q2 : x2.toInt ≤ (nn : Int)) (q3 : TTd nn (aP A gg) (aC A gg) dd) (q4 : (dd x2.toInt.toNat : Int) = tt) : Ok (f_deepOf_0 x1 x2 I A) (fun o => o.2 = (I, A) ∧ ((0 : Int) ≤ o.1.toInt ∧ o.1.toInt ≤ (6 : Int)) ∧ (o.1.toInt = tt)) := by
  unfold f_deepOf_0
  have h6 := q3.2.2 x2.toInt.toNat (by omega)
  exact t_deepOf_5 (gg := gg) (nn := nn) (dd := dd) (tt := tt)   hI hA mFuel x1 (0 : Int32) x2  r_x1 (by decide) r_x2 q0 q1 q2 q3 (by have z0 : (0 : Int32).toInt = 0 := rfl; omega) (by show _ < ((200000 : Nat) : Int); have z0 : (0 : Int32).toInt = 0 := rfl; omega)
theorem t_deepOf {gg nn : Nat} {dd : Nat → Nat} {tt : Int} {I : Nat → Int32} {A : Nat → Nat → Int32} {x1 : Int32} {x2 : Int32} (hI : TJ I) (hA : TK A) (r_x1 : (0 : Int) ≤ x1.toInt ∧ x1.toInt ≤ (1 : Int)) (r_x2 : (0 : Int) ≤ x2.toInt ∧ x2.toInt ≤ (300 : Int)) (q0 : TRn A gg nn) (q1 : x1.toInt = (gg : Int)) (q2 : x2.toInt ≤ (nn : Int)) (q3 : TTd nn (aP A gg) (aC A gg) dd) (q4 : (dd x2.toInt.toNat : Int) = tt) : Ok (f_deepOf x1 x2 I A) (fun o => o.2 = (I, A) ∧ ((0 : Int) ≤ o.1.toInt ∧ o.1.toInt ≤ (6 : Int)) ∧ (o.1.toInt = tt)) := t_deepOf_0 (gg := gg) (nn := nn) (dd := dd) (tt := tt) hI hA r_x1 r_x2 q0 q1 q2 q3 q4
theorem t_isBehind_2s {gg nn : Nat} {ww : Prop} {I : Nat → Int32} {A : Nat → Nat → Int32} {self2 : Int32 → Int32 → (Nat → Int32) → (Nat → Nat → Int32) → Option (Int32 × MS)} {N2 : Nat} (hself2 : ∀ (x2 : Int32) (x3 : Int32),  ((0 : Int) ≤ x2.toInt ∧ x2.toInt ≤ (300 : Int)) → ((0 : Int) ≤ x3.toInt ∧ x3.toInt ≤ (300 : Int)) → (TRn A gg nn) → ((I 5).toInt = (gg : Int)) → (x3.toInt ≤ (nn : Int)) → (bh (aP A gg) x2.toInt.toNat x3.toInt.toNat ↔ ww) → (x3.toInt + 1) < (N2 : Int) → Ok (self2 x2 x3 I A) (fun o => o.2 = (I, A) ∧ ((0 : Int) ≤ o.1.toInt ∧ o.1.toInt ≤ (1 : Int)) ∧ ((o.1.toInt = 1 → ww) ∧ (o.1.toInt = 0 → ¬ ww)))) {x2 : Int32} {x3 : Int32} (hI : TJ I) (hA : TK A) (r_x2 : (0 : Int) ≤ x2.toInt ∧ x2.toInt ≤ (300 : Int)) (r_x3 : (0 : Int) ≤ x3.toInt ∧ x3.toInt ≤ (300 : Int)) (q0 : TRn A gg nn) (q1 : (I 5).toInt = (gg : Int)) (q2 : x3.toInt ≤ (nn : Int)) (q3 : bh (aP A gg) x2.toInt.toNat x3.toInt.toNat ↔ ww) (m2 : (x3.toInt + 1) ≤ (N2 : Int)) : Ok (f_isBehind_2s self2 x2 x3 I A) (fun o => o.2 = (I, A) ∧ ((0 : Int) ≤ o.1.toInt ∧ o.1.toInt ≤ (1 : Int)) ∧ ((o.1.toInt = 1 → ww) ∧ (o.1.toInt = 0 → ¬ ww))) := by
  unfold f_isBehind_2s
  refine ok_if (fun c56 => ?_) (fun c56 => ?_)
  ·
    replace c56 := ti_leP c56 rfl rfl
    refine ok_if (fun c57 => ?_) (fun c57 => ?_)
    ·
      replace c57 := ti_eqP c57 rfl rfl
      unfold f_isBehind_36
      refine ok_chk (by decide) ?_
      exact ok_ret ⟨rfl, (show (0 : Int) ≤ (1 : Int32).toInt ∧ (1 : Int32).toInt ≤ (1 : Int) from (by decide)), (by show ((1 : Int32).toInt = 1 → ww) ∧ ((1 : Int32).toInt = 0 → ¬ ww); constructor <;> intro h <;> first | (exact absurd h (by decide)) | (exact q3.mp (by rw [show x3.toInt.toNat = x2.toInt.toNat by omega]; exact bh_self q0 (by omega))) | (intro hw; have := bh_le q0 _ (by omega) (q3.mpr hw); omega))⟩
    ·
      replace c57 := ti_eqN c57 rfl rfl
      unfold f_isBehind_36
      refine ok_chk (by decide) ?_
      exact ok_ret ⟨rfl, (show (0 : Int) ≤ (0 : Int32).toInt ∧ (0 : Int32).toInt ≤ (1 : Int) from (by decide)), (by show ((0 : Int32).toInt = 1 → ww) ∧ ((0 : Int32).toInt = 0 → ¬ ww); constructor <;> intro h <;> first | (exact absurd h (by decide)) | (exact q3.mp (by rw [show x3.toInt.toNat = x2.toInt.toNat by omega]; exact bh_self q0 (by omega))) | (intro hw; have := bh_le q0 _ (by omega) (q3.mpr hw); omega))⟩
  ·
    replace c56 := ti_leN c56 rfl rfl
    refine ok_bnd (fun v1 e58 => ?_)
    have b_I_5 := tI_5 hI
    have t_v1 : v1.toInt = 301 * (I 5).toInt := ti_mul e58 (show (301 : Int32).toInt = 301 from rfl) rfl (by omega) (by omega)
    refine ok_bnd (fun v2 e59 => ?_)
    have t_v2 : v2.toInt = v1.toInt + x3.toInt := ti_add e59 rfl rfl (by omega) (by omega)
    refine ok_chk (ti_in (by omega) (by omega)) ?_
    refine ok_bnd (fun v3 e60 => ?_)
    have b_v3 := tA_8 hA ((v2).toNatClampNeg)
    rw [← e60] at b_v3
    have hp := q0 x3.toInt.toNat (by omega) (by omega)
    have i3 : v2.toNatClampNeg = 301 * gg + x3.toInt.toNat := by have := ti_nc (a := v2) (by omega); omega
    have w3 : v3.toInt = aP A gg x3.toInt.toNat := by rw [e60, i3]; rfl
    exact hself2 x2 v3 r_x2 (by omega) q0 q1 (by omega) (by rw [w3, ← q3, bh_step q0 (k := x3.toInt.toNat) (by omega) (by omega)]; exact ⟨Or.inr, fun h => h.elim (fun h => by omega) id⟩) (by omega)
theorem t_isBehind_2 {gg nn : Nat} {ww : Prop} {I : Nat → Int32} {A : Nat → Nat → Int32} (hI : TJ I) (hA : TK A) : ∀ (n : Nat) (x2 : Int32) (x3 : Int32),  ((0 : Int) ≤ x2.toInt ∧ x2.toInt ≤ (300 : Int)) → ((0 : Int) ≤ x3.toInt ∧ x3.toInt ≤ (300 : Int)) → (TRn A gg nn) → ((I 5).toInt = (gg : Int)) → (x3.toInt ≤ (nn : Int)) → (bh (aP A gg) x2.toInt.toNat x3.toInt.toNat ↔ ww) → (x3.toInt + 1) < (n : Int) → Ok (f_isBehind_2  n x2 x3 I A) (fun o => o.2 = (I, A) ∧ ((0 : Int) ≤ o.1.toInt ∧ o.1.toInt ≤ (1 : Int)) ∧ ((o.1.toInt = 1 → ww) ∧ (o.1.toInt = 0 → ¬ ww))) := by
  intro n
  induction n with
  | zero => intro x2 x3 g0 g1 g2 g3 g4 g5  hm; exfalso; omega
  | succ n ih =>
    intro x2 x3 g0 g1 g2 g3 g4 g5  hm
    exact t_isBehind_2s (gg := gg) (nn := nn) (ww := ww)  (N2 := n)  ih hI hA g0 g1 g2 g3 g4 g5  (by omega)
theorem t_isBehind_0 {gg nn : Nat} {ww : Prop} {I : Nat → Int32} {A : Nat → Nat → Int32} {x1 : Int32} {x2 : Int32} (hI : TJ I) (hA : TK A) (r_x1 : (0 : Int) ≤ x1.toInt ∧ x1.toInt ≤ (300 : Int)) (r_x2 : (0 : Int) ≤ x2.toInt ∧ x2.toInt ≤ (300 : Int)) (q0 : TRn A gg nn) (q1 : (I 5).toInt = (gg : Int)) (q2 : x1.toInt ≤ (nn : Int)) (q3 : bh (aP A gg) x2.toInt.toNat x1.toInt.toNat ↔ ww) : Ok (f_isBehind_0 x1 x2 I A) (fun o => o.2 = (I, A) ∧ ((0 : Int) ≤ o.1.toInt ∧ o.1.toInt ≤ (1 : Int)) ∧ ((o.1.toInt = 1 → ww) ∧ (o.1.toInt = 0 → ¬ ww))) := by
  unfold f_isBehind_0
  exact t_isBehind_2 (gg := gg) (nn := nn) (ww := ww)   hI hA mFuel x2 x1  r_x2 r_x1 q0 q1 q2 q3 (by show _ < ((200000 : Nat) : Int); omega)
theorem t_isBehind {gg nn : Nat} {ww : Prop} {I : Nat → Int32} {A : Nat → Nat → Int32} {x1 : Int32} {x2 : Int32} (hI : TJ I) (hA : TK A) (r_x1 : (0 : Int) ≤ x1.toInt ∧ x1.toInt ≤ (300 : Int)) (r_x2 : (0 : Int) ≤ x2.toInt ∧ x2.toInt ≤ (300 : Int)) (q0 : TRn A gg nn) (q1 : (I 5).toInt = (gg : Int)) (q2 : x1.toInt ≤ (nn : Int)) (q3 : bh (aP A gg) x2.toInt.toNat x1.toInt.toNat ↔ ww) : Ok (f_isBehind x1 x2 I A) (fun o => o.2 = (I, A) ∧ ((0 : Int) ≤ o.1.toInt ∧ o.1.toInt ≤ (1 : Int)) ∧ ((o.1.toInt = 1 → ww) ∧ (o.1.toInt = 0 → ¬ ww))) := t_isBehind_0 (gg := gg) (nn := nn) (ww := ww) hI hA r_x1 r_x2 q0 q1 q2 q3
end
section
theorem TTd_u {n : Nat} {P M C : Nat → Int} {D D2 : Nat → Nat} (hb : TTb n P M) (h1 : TTd n P C D) (h2 : TTd n P C D2) : ∀ k, k ≤ n → D k = D2 k := by
  intro k
  induction k using Nat.strongRecOn with
  | ind k ih =>
    intro hk
    by_cases e : k = 0
    · subst e; rw [h1.1, h2.1]
    · have h3 := (hb k (by omega) hk).1
      rw [h1.2.1 k (by omega) hk, h2.2.1 k (by omega) hk, ih _ (by omega) (by omega)]
theorem TTd_app {n node : Nat} {P M C N P' C' : Nat → Int} {L : Nat → List Nat} {D : Nat → Nat} (hb : TTb n P M) (hl : TTl n P C N L) (hd : TTd n P C D) (hnode : node ≤ n) (hdeep : D node + (if L node = [] then 0 else 1) ≤ 6)
    (eP : ∀ j, j ≤ n → P' j = P j) (eP1 : P' (n + 1) = (node : Int)) (eC : ∀ j, j ≤ n → j ≠ node → C' j = C j) (eC0 : L node ≠ [] → C' node = C node) (eC1 : L node = [] → C' node = ((n + 1 : Nat) : Int)) : TTd (n + 1) P' C' (fun j => if j = n + 1 then D node + (if L node = [] then 0 else 1) else D j) := by
  have hLn : ∀ p, p ≤ n → ∀ k ∈ L p, 1 ≤ k ∧ k ≤ n ∧ P k = (p : Int) := fun p hp k hk => ((hl p hp).2.2 k).mp hk
  refine ⟨?_, fun k h1 h2 => ?_, fun k hk => ?_⟩
  · show (if 0 = n + 1 then _ else D 0) = 0
    rw [if_neg (by omega)]; exact hd.1
  · have hCn : L node ≠ [] → C node ≠ ((n + 1 : Nat) : Int) := fun h0 he => by
      obtain ⟨a, b, c⟩ := hl node hnode
      cases hL : L node with
      | nil => exact h0 hL
      | cons x l =>
        rw [hL] at a
        have h1 := a.1
        have h2 := hLn node hnode x (by rw [hL]; exact List.mem_cons_self)
        omega
    by_cases e : k = n + 1
    · subst e
      have e3 : (P' (n + 1)).toNat = node := by rw [eP1]; exact Int.toNat_natCast node
      rw [e3]
      show (if n + 1 = n + 1 then _ else _) = (if node = n + 1 then _ else D node) + _
      rw [if_pos rfl, if_neg (show ¬ node = n + 1 by omega)]
      by_cases h0 : L node = []
      · rw [if_pos h0, if_pos (eC1 h0)]
      · rw [if_neg h0, if_neg (by rw [eC0 h0]; exact hCn h0)]
    · have h3 := (hb k h1 (by omega)).1
      show (if k = n + 1 then _ else D k) = (if (P' k).toNat = n + 1 then _ else D (P' k).toNat) + _
      rw [if_neg e, eP k (by omega), if_neg (show ¬ (P k).toNat = n + 1 by omega), hd.2.1 k h1 (by omega)]
      congr 1
      by_cases e4 : (P k).toNat = node
      · rw [e4]
        have hmem : k ∈ L node := ((hl node hnode).2.2 k).mpr ⟨h1, by omega, by omega⟩
        have h0 : L node ≠ [] := fun h => by rw [h] at hmem; cases hmem
        rw [eC0 h0]
      · rw [eC _ (by omega) e4]
  · show (if k = n + 1 then _ else D k) ≤ 6
    by_cases e : k = n + 1
    · rw [if_pos e]; exact hdeep
    · rw [if_neg e]; exact hd.2.2 k (by omega)
/-- node k is there, and at most d deep -/
noncomputable def lnk (A : Nat → Nat → Int32) (g k : Nat) (d : Int) : Prop := k ≤ aK A g ∧ ∀ D, TTd (aK A g) (aP A g) (aC A g) D → (D k : Int) ≤ d
/-- a new node behind k would be at most d deep -/
noncomputable def apd (A : Nat → Nat → Int32) (g k : Nat) (d : Int) : Prop := k ≤ aK A g ∧ ∀ D, TTd (aK A g) (aP A g) (aC A g) D → (D k : Int) + (if aC A g k < 0 then 0 else 1) ≤ d
noncomputable def leaf (A : Nat → Nat → Int32) (g k : Nat) : Prop := aC A g k < 0
theorem lnk_fr {A A' : Nat → Nat → Int32} {g k : Nat} {d : Int} (e7 : A' 7 = A 7) (e8 : A' 8 = A 8) (e10 : A' 10 = A 10) (h : lnk A g k d) : lnk A' g k d := by
  have a : aK A' g = aK A g := by unfold aK; rw [e7]
  have b : aP A' g = aP A g := by funext j; unfold aP; rw [e8]
  have c : aC A' g = aC A g := by funext j; unfold aC; rw [e10]
  unfold lnk; rw [a, b, c]; exact h
theorem apd_fr {A A' : Nat → Nat → Int32} {g k : Nat} {d : Int} (e7 : A' 7 = A 7) (e8 : A' 8 = A 8) (e10 : A' 10 = A 10) (h : apd A g k d) : apd A' g k d := by
  have a : aK A' g = aK A g := by unfold aK; rw [e7]
  have b : aP A' g = aP A g := by funext j; unfold aP; rw [e8]
  have c : aC A' g = aC A g := by funext j; unfold aC; rw [e10]
  unfold apd; rw [a, b, c]; exact h
theorem leaf_fr {A A' : Nat → Nat → Int32} {g k : Nat} (e10 : A' 10 = A 10) (h : leaf A g k) : leaf A' g k := by
  unfold leaf aC; rw [e10]; exact h
theorem apd_leaf {A : Nat → Nat → Int32} {g k : Nat} {d : Int} (h : lnk A g k d) (hl : leaf A g k) : apd A g k d := ⟨h.1, fun D hD => by
  rw [if_pos (show aC A g k < 0 from hl)]; have := h.2 D hD; omega⟩
theorem apd_lnk {A : Nat → Nat → Int32} {g k : Nat} {d : Int} (h : lnk A g k d) : apd A g k (d + 1) := ⟨h.1, fun D hD => by
  have := h.2 D hD
  split <;> omega⟩
theorem lnk_apd {A : Nat → Nat → Int32} {g k : Nat} {d : Int} (h : apd A g k d) : lnk A g k d := ⟨h.1, fun D hD => by
  have := h.2 D hD
  split at this <;> omega⟩
theorem apd_le {A : Nat → Nat → Int32} {g k : Nat} {d d' : Int} (h : apd A g k d) (hd : d ≤ d') : apd A g k d' := ⟨h.1, fun D hD => by
  have := h.2 D hD
  omega⟩
/-- what an append leaves of a game -/
noncomputable def AP (A A' : Nat → Nat → Int32) (g node r : Nat) : Prop := r = aK A g + 1 ∧ aK A' g = aK A g + 1 ∧ (∀ k d, lnk A g k d → lnk A' g k d) ∧ (∀ k, k ≤ aK A g → k ≠ node → leaf A g k → leaf A' g k) ∧ leaf A' g r ∧ (∀ d, apd A g node d → lnk A' g r d)
theorem chn_len {n : Nat} {P C N : Nat → Int} {L : Nat → List Nat} (hl : TTl n P C N L) {p : Nat} (hp : p ≤ n) : (L p).length ≤ n := pig n _ (hl p hp).2.1 (fun k hk => by
  have := ((hl p hp).2.2 k).mp hk
  omega)
theorem t_childWith_14 {I : Nat → Int32} {A : Nat → Nat → Int32} {g : Nat} (hg : g ≤ 1) : ∀ (l : List Nat) (n : Nat) (x1 x3 x4 : Int32), x1.toInt = (g : Int) → (∀ k ∈ l, k ≤ 300) → chn (aN A g) l x4.toInt → l.length < n → Ok (f_childWith_14 n x1 x3 x4 I A) (fun o => o.2 = (I, A) ∧ (o.1.toInt = -1 ∨ ∃ k ∈ l, o.1.toInt = (k : Int))) := by
  intro l
  induction l with
  | nil =>
    intro n x1 x3 x4 h1 h2 h3 h4
    cases n with
    | zero => omega
    | succ n =>
      have h5 : x4.toInt = -1 := h3
      show Ok (f_childWith_14s (f_childWith_14 n) x1 x3 x4 I A) _
      unfold f_childWith_14s
      exact ok_ifT (Int32.lt_iff_toInt_lt.mpr (by rw [h5]; decide)) (show Ok (some (x4, (I, A))) _ from ok_ret ⟨rfl, Or.inl h5⟩)
  | cons k l ih =>
    intro n x1 x3 x4 h1 h2 h3 h4
    cases n with
    | zero => exact absurd h4 (Nat.not_lt_zero _)
    | succ n =>
      have hk := h2 k List.mem_cons_self
      have h5 : x4.toInt = (k : Int) := h3.1
      show Ok (f_childWith_14s (f_childWith_14 n) x1 x3 x4 I A) _
      unfold f_childWith_14s
      refine ok_ifF (fun h => by have := ti_ltP h rfl (show (0 : Int32).toInt = 0 from rfl); omega) ?_
      refine ok_bnd (fun v1 e1 => ?_)
      have t1 := ti_mul e1 (show (301 : Int32).toInt = 301 from rfl) h1 (by omega) (by omega)
      refine ok_bnd (fun v2 e2 => ?_)
      have t2 := ti_add e2 t1 h5 (by omega) (by omega)
      refine ok_chk (ti_in (by omega) (by omega)) ?_
      refine ok_bnd (fun v3 e3 => ?_)
      refine ok_if (fun _ => show Ok (some (x4, (I, A))) _ from ok_ret ⟨rfl, Or.inr ⟨k, List.mem_cons_self, h5⟩⟩) (fun _ => ?_)
      refine ok_bnd (fun v4 e4 => ?_)
      have t4 := ti_mul e4 (show (301 : Int32).toInt = 301 from rfl) h1 (by omega) (by omega)
      refine ok_bnd (fun v5 e5 => ?_)
      have t5 := ti_add e5 t4 h5 (by omega) (by omega)
      refine ok_chk (ti_in (by omega) (by omega)) ?_
      refine ok_bnd (fun v6 e6 => ?_)
      have i5 : v5.toNatClampNeg = 301 * g + k := by have := ti_nc (a := v5) (by omega); omega
      have w6 : v6.toInt = aN A g k := by rw [e6, i5]; rfl
      refine ok_mono (ih n x1 x3 v6 h1 (fun j hj => h2 j (List.mem_cons_of_mem _ hj)) (by rw [w6]; exact h3.2) (by simp only [List.length_cons] at h4; omega)) (fun o ho => ⟨ho.1, ?_⟩)
      rcases ho.2 with h | ⟨j, hj, he⟩
      · exact Or.inl h
      · exact Or.inr ⟨j, List.mem_cons_of_mem _ hj, he⟩
theorem aK_le {A : Nat → Nat → Int32} {g : Nat} (hA : TK A) : aK A g ≤ 300 := by
  have := tA_7 hA g
  unfold aK; omega
theorem t_childWith {gg : Nat} {I : Nat → Int32} {A : Nat → Nat → Int32} {x1 x2 x3 : Int32} (hI : TJ I) (hA : TK A) (r_x1 : (0 : Int) ≤ x1.toInt ∧ x1.toInt ≤ (1 : Int)) (r_x2 : (0 : Int) ≤ x2.toInt ∧ x2.toInt ≤ (300 : Int)) (q0 : TRE A gg) (q1 : x1.toInt = (gg : Int)) (q2 : x2.toInt ≤ (aK A gg : Int)) : Ok (f_childWith x1 x2 x3 I A) (fun o => o.2 = (I, A) ∧ ((-1 : Int) ≤ o.1.toInt ∧ o.1.toInt ≤ (300 : Int)) ∧ (o.1.toInt ≤ (aK A gg : Int))) := by
  obtain ⟨hb, L, D, hl, hd⟩ := q0
  have hk := aK_le (g := gg) hA
  show Ok (f_childWith_0 x1 x2 x3 I A) _
  unfold f_childWith_0
  refine ok_bnd (fun v1 e1 => ?_)
  have t1 := ti_mul e1 (show (301 : Int32).toInt = 301 from rfl) q1 (by omega) (by omega)
  refine ok_bnd (fun v2 e2 => ?_)
  have t2 := ti_add e2 t1 rfl (by omega) (by omega)
  refine ok_chk (ti_in (by omega) (by omega)) ?_
  refine ok_bnd (fun v3 e3 => ?_)
  have i2 : v2.toNatClampNeg = 301 * gg + x2.toInt.toNat := by have := ti_nc (a := v2) (by omega); omega
  have w3 : v3.toInt = aC A gg x2.toInt.toNat := by rw [e3, i2]; rfl
  have hp : x2.toInt.toNat ≤ aK A gg := by omega
  have hlen := chn_len hl hp
  refine ok_mono (t_childWith_14 (by omega) (L x2.toInt.toNat) mFuel x1 x3 v3 q1 (fun k hk' => ?_) (by rw [w3]; exact (hl _ hp).1) (by show _ < 200000; omega)) (fun o ho => ⟨ho.1, ?_⟩)
  · have := ((hl _ hp).2.2 k).mp hk'; omega
  · rcases ho.2 with h | ⟨k, hk', he⟩
    · omega
    · have := ((hl _ hp).2.2 k).mp hk'; omega
theorem t_append_94 {I : Nat → Int32} {A : Nat → Nat → Int32} {g : Nat} (hg : g ≤ 1) : ∀ (l : List Nat) (hne : l ≠ []) (n : Nat) (x1 x4 x5 : Int32), x1.toInt = (g : Int) → (∀ k ∈ l, k ≤ 300) → chn (aN A g) l x5.toInt → l.length < n → f_append_94 n x1 x4 x5 I A = some (x4, (I, va_up A 11 (upd (A 11) (301 * g + l.getLast hne) x4))) := by
  intro l
  induction l with
  | nil => intro hne; exact absurd rfl hne
  | cons k l ih =>
    intro hne n x1 x4 x5 h1 h2 h3 h4
    cases n with
    | zero => exact absurd h4 (Nat.not_lt_zero _)
    | succ n =>
      have hk := h2 k List.mem_cons_self
      have h5 : x5.toInt = (k : Int) := h3.1
      have key : Ok (f_append_94s (f_append_94 n) x1 x4 x5 I A) (fun o => o = (x4, (I, va_up A 11 (upd (A 11) (301 * g + (k :: l).getLast hne) x4)))) := by
        unfold f_append_94s
        refine ok_bnd (fun v1 e1 => ?_)
        have t1 := ti_mul e1 (show (301 : Int32).toInt = 301 from rfl) h1 (by omega) (by omega)
        refine ok_bnd (fun v2 e2 => ?_)
        have t2 := ti_add e2 t1 h5 (by omega) (by omega)
        refine ok_chk (ti_in (by omega) (by omega)) ?_
        refine ok_bnd (fun v3 e3 => ?_)
        have i2 : v2.toNatClampNeg = 301 * g + k := by have := ti_nc (a := v2) (by omega); omega
        have w3 : v3.toInt = aN A g k := by rw [e3, i2]; rfl
        have h6 := h3.2
        rw [← w3] at h6
        refine ok_if (fun c => ?_) (fun c => ?_)
        · replace c := ti_ltP c rfl (show (0 : Int32).toInt = 0 from rfl)
          have hl0 := chn_nil h6 c
          subst hl0
          refine ok_bnd (fun v4 e4 => ?_)
          have t4 := ti_mul e4 (show (301 : Int32).toInt = 301 from rfl) h1 (by omega) (by omega)
          refine ok_bnd (fun v5 e5 => ?_)
          have t5 := ti_add e5 t4 h5 (by omega) (by omega)
          have i5 : v5.toNatClampNeg = 301 * g + k := by have := ti_nc (a := v5) (by omega); omega
          refine ok_chk (ti_in (by omega) (by omega)) ?_
          refine ok_bnd (fun A6 e6 => ?_)
          rw [i5] at e6
          exact ok_ret (by rw [e6]; rfl)
        · replace c := ti_ltN c rfl (show (0 : Int32).toInt = 0 from rfl)
          have hl0 : l ≠ [] := fun h => by rw [h] at h6; have : v3.toInt = -1 := h6; omega
          refine ok_bnd (fun v7 e7 => ?_)
          have t7 := ti_mul e7 (show (301 : Int32).toInt = 301 from rfl) h1 (by omega) (by omega)
          refine ok_bnd (fun v8 e8 => ?_)
          have t8 := ti_add e8 t7 h5 (by omega) (by omega)
          have i8 : v8.toNatClampNeg = 301 * g + k := by have := ti_nc (a := v8) (by omega); omega
          refine ok_chk (ti_in (by omega) (by omega)) ?_
          refine ok_bnd (fun v9 e9 => ?_)
          have w9 : v9.toInt = aN A g k := by rw [e9, i8]; rfl
          have h7 := ih hl0 n x1 x4 v9 h1 (fun j hj => h2 j (List.mem_cons_of_mem _ hj)) (by rw [w9]; exact h3.2) (by simp only [List.length_cons] at h4; omega)
          exact ⟨_, h7, by rw [List.getLast_cons hl0]⟩
      obtain ⟨o, h8, h9⟩ := key
      show f_append_94s (f_append_94 n) x1 x4 x5 I A = _
      rw [h8, h9]
end
section
theorem app_tree {A A' : Nat → Nat → Int32} {g node n : Nat} {mv : Int} {L : Nat → List Nat} {D : Nat → Nat} (hn : aK A g = n) (hb : TTb n (aP A g) (aM A g)) (hl : TTl n (aP A g) (aC A g) (aN A g) L) (hd : TTd n (aP A g) (aC A g) D) (q3 : apd A g node 6) (k7 : aK A' g = n + 1)
    (e8 : ∀ j, aP A' g j = if j = n + 1 then (node : Int) else aP A g j) (e9 : ∀ j, aM A' g j = if j = n + 1 then mv else aM A g j) (hmv : 0 ≤ mv) (e10 : ∀ j, aC A' g j = if j = n + 1 then -1 else if j = node ∧ L node = [] then ((n + 1 : Nat) : Int) else aC A g j)
    (e11a : L node = [] → ∀ j, aN A' g j = if j = n + 1 then -1 else aN A g j) (e11b : ∀ h : L node ≠ [], ∀ j, aN A' g j = if j = (L node).getLast h then ((n + 1 : Nat) : Int) else if j = n + 1 then -1 else aN A g j) : TRE A' g ∧ AP A A' g node (n + 1) := by
  have hnode : node ≤ n := by rw [← hn]; exact q3.1
  have hLC : L node = [] ↔ aC A g node < 0 := by
    have hc := (hl node hnode).1
    constructor
    · intro h; rw [h] at hc; have : aC A g node = -1 := hc; omega
    · intro h; exact chn_nil hc h
  have hdeep : D node + (if L node = [] then 0 else 1) ≤ 6 := by
    have h1 := q3.2 D (by rw [hn]; exact hd)
    by_cases h0 : L node = []
    · rw [if_pos (hLC.mp h0)] at h1; rw [if_pos h0]; omega
    · rw [if_neg (fun h => h0 (hLC.mpr h))] at h1; rw [if_neg h0]; omega
  have hlast : ∀ h : L node ≠ [], (L node).getLast h ≤ n := fun h => (((hl node hnode).2.2 _).mp (List.getLast_mem h)).2.1
  have eP : ∀ j, j ≤ n → aP A' g j = aP A g j := fun j hj => by rw [e8 j, if_neg (by omega)]
  have eP1 : aP A' g (n + 1) = (node : Int) := by rw [e8, if_pos rfl]
  have eC : ∀ j, j ≤ n → j ≠ node → aC A' g j = aC A g j := fun j hj hne => by rw [e10 j, if_neg (by omega), if_neg (fun h => hne h.1)]
  have eC0 : L node ≠ [] → aC A' g node = aC A g node := fun h => by rw [e10, if_neg (by omega), if_neg (fun h' => h h'.2)]
  have eC1 : L node = [] → aC A' g node = ((n + 1 : Nat) : Int) := fun h => by rw [e10, if_neg (by omega), if_pos ⟨rfl, h⟩]
  have eC2 : aC A' g (n + 1) = -1 := by rw [e10, if_pos rfl]
  have hTT : TT (n + 1) (aP A' g) (aM A' g) (aC A' g) (aN A' g) := by
    refine TT_app hb hl hd hnode hdeep eP eP1 (fun j hj => by rw [e9 j, if_neg (by omega)]) (by rw [e9, if_pos rfl]; exact hmv) eC eC0 eC1 eC2 (fun j hj hne => ?_) (fun h => ?_) ?_
    · by_cases h0 : L node = []
      · rw [e11a h0, if_neg (by omega)]
      · rw [e11b h0, if_neg (hne h0), if_neg (by omega)]
    · rw [e11b h, if_pos rfl]
    · by_cases h0 : L node = []
      · rw [e11a h0, if_pos rfl]
      · rw [e11b h0, if_neg (by have := hlast h0; omega), if_pos rfl]
  have hTd := TTd_app hb hl hd hnode hdeep eP eP1 eC eC0 eC1
  have hTd' : TTd (aK A' g) (aP A' g) (aC A' g) (fun j => if j = n + 1 then D node + (if L node = [] then 0 else 1) else D j) := by rw [k7]; exact hTd
  have hb' : TTb (aK A' g) (aP A' g) (aM A' g) := by rw [k7]; exact hTT.1
  refine ⟨by unfold TRE; rw [k7]; exact hTT, by rw [hn], by rw [hn]; exact k7, fun k d h => ?_, fun k hk hne h => ?_, by unfold leaf; rw [eC2]; decide, fun d h => ?_⟩
  · have hk : k ≤ n := by rw [← hn]; exact h.1
    refine ⟨by rw [k7]; omega, fun D2 hD2 => ?_⟩
    have h1 := TTd_u hb' hD2 hTd' k (by rw [k7]; omega)
    rw [h1, if_neg (by omega)]
    exact h.2 D (by rw [hn]; exact hd)
  · unfold leaf
    rw [eC k (by rw [← hn]; exact hk) hne]
    exact h
  · refine ⟨by rw [k7]; exact Nat.le_refl _, fun D2 hD2 => ?_⟩
    have h1 := TTd_u hb' hD2 hTd' (n + 1) (by rw [k7]; exact Nat.le_refl _)
    rw [h1, if_pos rfl]
    have h2 := h.2 D (by rw [hn]; exact hd)
    by_cases h0 : L node = []
    · rw [if_pos (hLC.mp h0)] at h2; rw [if_pos h0]; omega
    · rw [if_neg (fun h => h0 (hLC.mpr h))] at h2; rw [if_neg h0]; omega
theorem up_j {f : Nat → Int32} {g k j : Nat} {v : Int32} : (upd f (301 * g + k) v (301 * g + j)).toInt = if j = k then v.toInt else (f (301 * g + j)).toInt := by
  by_cases e : j = k
  · subst e; rw [upd_self, if_pos rfl]
  · rw [upd_ne (by omega), if_neg e]
theorem up_o {f : Nat → Int32} {g h k j : Nat} {v : Int32} (hk : k ≤ 300) (hj : j ≤ 300) (hne : h ≠ g) : upd f (301 * g + k) v (301 * h + j) = f (301 * h + j) := upd_ne (by
  intro e
  rcases Nat.lt_or_gt_of_ne hne with h1 | h1
  · have : 301 * h + 301 ≤ 301 * g := by omega
    omega
  · have : 301 * g + 301 ≤ 301 * h := by omega
    omega)
/-- the arrays of nodes of two games that agree on one of them -/
theorem TRE_oth {A A' : Nat → Nat → Int32} {h : Nat} (hA : TK A) (e7 : A' 7 h = A 7 h) (e8 : ∀ j, j ≤ 300 → A' 8 (301 * h + j) = A 8 (301 * h + j)) (e9 : ∀ j, j ≤ 300 → A' 9 (301 * h + j) = A 9 (301 * h + j)) (e10 : ∀ j, j ≤ 300 → A' 10 (301 * h + j) = A 10 (301 * h + j)) (e11 : ∀ j, j ≤ 300 → A' 11 (301 * h + j) = A 11 (301 * h + j)) (ht : TRE A h) : TRE A' h := by
  have hk := aK_le (g := h) hA
  have a : aK A' h = aK A h := by unfold aK; rw [e7]
  unfold TRE
  rw [a]
  refine TT_congr ht (fun k hk' => ⟨?_, ?_, ?_, ?_⟩)
  · unfold aP; rw [e8 k (by omega)]
  · unfold aM; rw [e9 k (by omega)]
  · unfold aC; rw [e10 k (by omega)]
  · unfold aN; rw [e11 k (by omega)]
noncomputable def cNd (A : Nat → Nat → Int32) (i : Nat) : Nat → Nat → Int32 := va_up (va_up (va_up (va_up A 10 (upd (A 10) i (-1))) 11 (upd (A 11) i (-1))) 12 (upd (A 12) i 0)) 14 (upd (A 14) i 0)
theorem clearNode_eq {I : Nat → Int32} {A : Nat → Nat → Int32} {x1 : Int32} (h : (0 : Int) ≤ x1.toInt ∧ x1.toInt ≤ (601 : Int)) : f_clearNode x1 I A = some (0, (I, cNd A x1.toNatClampNeg)) := by
  have hc : ¬ (x1 < 0 ∨ 602 ≤ x1.toNatClampNeg) := ti_in (by omega) (by omega)
  show f_clearNode_0 x1 I A = _
  unfold f_clearNode_0
  have e : ∀ {β : Type} {k : Option β}, m_chk (¬ (x1 < 0 ∨ 602 ≤ x1.toNatClampNeg)) k = k := fun {β} {k} => if_pos hc
  rw [e, m_bnd, e, m_bnd, e, m_bnd, e, m_bnd]
  rfl
theorem tk_cNd {A : Nat → Nat → Int32} {i : Nat} (h : TK A) : TK (cNd A i) := by
  unfold cNd
  refine tk_x (tk_x (tk_x (tk_x h (fun j => ?_)) (fun j => ?_)) (fun j => ?_)) (fun j => ?_)
  · by_cases e : j = i
    · rw [e, upd_self]; exact ⟨show (-1 : Int) ≤ (-1 : Int32).toInt by decide, show (-1 : Int32).toInt ≤ (300 : Int) by decide⟩
    · rw [upd_ne e]; exact h 10 j
  · by_cases e : j = i
    · rw [e, upd_self]; exact ⟨show (-1 : Int) ≤ (-1 : Int32).toInt by decide, show (-1 : Int32).toInt ≤ (300 : Int) by decide⟩
    · rw [upd_ne e]; exact h 11 j
  · by_cases e : j = i
    · rw [e, upd_self]; exact ⟨show (0 : Int) ≤ (0 : Int32).toInt by decide, show (0 : Int32).toInt ≤ (4 : Int) by decide⟩
    · rw [upd_ne e]; exact h 12 j
  · by_cases e : j = i
    · rw [e, upd_self]; exact ⟨show (0 : Int) ≤ (0 : Int32).toInt by decide, show (0 : Int32).toInt ≤ (200 : Int) by decide⟩
    · rw [upd_ne e]; exact h 14 j
theorem t_append {gg : Nat} {I : Nat → Int32} {A : Nat → Nat → Int32} {x1 x2 x3 : Int32} (hI : TJ I) (hA : TK A) (r_x1 : (0 : Int) ≤ x1.toInt ∧ x1.toInt ≤ (1 : Int)) (r_x2 : (0 : Int) ≤ x2.toInt ∧ x2.toInt ≤ (300 : Int)) (r_x3 : (0 : Int) ≤ x3.toInt ∧ x3.toInt ≤ (24575 : Int)) (q0 : TRE A gg) (q1 : x1.toInt = (gg : Int)) (q2 : (aK A gg : Int) ≤ 299) (q3 : apd A gg x2.toInt.toNat 6) : Ok (f_append x1 x2 x3 I A) (fun o => TJ o.2.1 ∧ TK o.2.2 ∧ ((1 : Int) ≤ o.1.toInt ∧ o.1.toInt ≤ (300 : Int)) ∧ (TRE o.2.2 gg) ∧ (∀ hh nb : Nat, hh ≤ 1 → hh ≠ gg → TRH A hh nb → TRH o.2.2 hh nb) ∧ (AP A o.2.2 gg x2.toInt.toNat o.1.toInt.toNat) ∧ (m3 o.2.2 x1.toInt o.1.toInt)) := by
  obtain ⟨hb, L, D, hl, hd⟩ := q0
  have hg : gg ≤ 1 := by omega
  have hix : x1.toNatClampNeg = gg := by have := ti_nc (a := x1) (by omega); omega
  have hnode := q3.1
  have hcx : ¬ (x1 < 0 ∨ 2 ≤ x1.toNatClampNeg) := ti_in (by omega) (by omega)
  have hk7 := tA_7 hA gg
  have hkk : ((aK A gg : Nat) : Int) = (A 7 gg).toInt := by unfold aK; omega
  show Ok (f_append_0 x1 x2 x3 I A) _
  unfold f_append_0
  refine ok_chk hcx ?_
  refine ok_bnd (fun v1 e1 => ?_)
  rw [hix] at e1
  refine ok_bnd (fun v2 e2 => ?_)
  have t2 : v2.toInt = ((aK A gg : Nat) : Int) + 1 := ti_add e2 (by rw [e1]; exact hkk.symm) (show (1 : Int32).toInt = 1 from rfl) (by omega) (by omega)
  refine ok_chk hcx ?_
  refine ok_bnd (fun A3 e3 => ?_)
  rw [hix] at e3
  have hA3 : TK A3 := e3.symm ▸ tk_u hA (j := 7) (show (0 : Int) ≤ v2.toInt by omega) (show v2.toInt ≤ (300 : Int) by omega)
  refine ok_chk hcx ?_
  refine ok_bnd (fun v4 e4 => ?_)
  have e4' : v4 = v2 := by rw [e4, e3, hix, va_up_self, upd_self]
  subst e4'
  clear e4
  refine ok_bnd (fun v5 e5 => ?_)
  have t5 := ti_mul e5 (show (301 : Int32).toInt = 301 from rfl) q1 (by omega) (by omega)
  refine ok_bnd (fun v6 e6 => ?_)
  have t6 := ti_add e6 t5 t2 (by omega) (by omega)
  have i6 : v6.toNatClampNeg = 301 * gg + (aK A gg + 1) := by have := ti_nc (a := v6) (by omega); omega
  refine ok_clR (clearNode_eq (by omega)) ?_
  rw [i6]
  have hA7 := tk_cNd (i := 301 * gg + (aK A gg + 1)) hA3
  refine ok_bnd (fun v8 e8 => ?_)
  have t8 := ti_mul e8 (show (301 : Int32).toInt = 301 from rfl) q1 (by omega) (by omega)
  refine ok_bnd (fun v9 e9 => ?_)
  have t9 := ti_add e9 t8 t2 (by omega) (by omega)
  have i9 : v9.toNatClampNeg = 301 * gg + (aK A gg + 1) := by have := ti_nc (a := v9) (by omega); omega
  refine ok_chk (ti_in (by omega) (by omega)) ?_
  refine ok_bnd (fun A10 e10 => ?_)
  rw [i9] at e10
  have hA10 : TK A10 := e10.symm ▸ tk_u hA7 (j := 8) (show (-1 : Int) ≤ x2.toInt by omega) (show x2.toInt ≤ (300 : Int) by omega)
  refine ok_bnd (fun v11 e11 => ?_)
  have t11 := ti_mul e11 (show (301 : Int32).toInt = 301 from rfl) q1 (by omega) (by omega)
  refine ok_bnd (fun v12 e12 => ?_)
  have t12 := ti_add e12 t11 t2 (by omega) (by omega)
  have i12 : v12.toNatClampNeg = 301 * gg + (aK A gg + 1) := by have := ti_nc (a := v12) (by omega); omega
  refine ok_chk (ti_in (by omega) (by omega)) ?_
  refine ok_bnd (fun A13 e13 => ?_)
  rw [i12] at e13
  have hA13 : TK A13 := e13.symm ▸ tk_u hA10 (j := 9) (show (-1 : Int) ≤ x3.toInt by omega) (show x3.toInt ≤ (24575 : Int) by omega)
  have s7 : A13 7 = upd (A 7) gg v4 := by rw [e13, e10, e3]; rfl
  have s8 : A13 8 = upd (A 8) (301 * gg + (aK A gg + 1)) x2 := by rw [e13, e10, e3]; rfl
  have s9 : A13 9 = upd (A 9) (301 * gg + (aK A gg + 1)) x3 := by rw [e13, e10, e3]; rfl
  have s10 : A13 10 = upd (A 10) (301 * gg + (aK A gg + 1)) (-1) := by rw [e13, e10, e3]; rfl
  have s11 : A13 11 = upd (A 11) (301 * gg + (aK A gg + 1)) (-1) := by rw [e13, e10, e3]; rfl
  have s12 : A13 12 = upd (A 12) (301 * gg + (aK A gg + 1)) 0 := by rw [e13, e10, e3]; rfl
  clear e13 e10 e3
  refine ok_bnd (fun v14 e14 => ?_)
  have t14 := ti_mul e14 (show (301 : Int32).toInt = 301 from rfl) q1 (by omega) (by omega)
  refine ok_bnd (fun v15 e15 => ?_)
  have t15 := ti_add e15 t14 rfl (by omega) (by omega)
  have i15 : v15.toNatClampNeg = 301 * gg + x2.toInt.toNat := by have := ti_nc (a := v15) (by omega); omega
  refine ok_chk (ti_in (by omega) (by omega)) ?_
  refine ok_bnd (fun v16 e16 => ?_)
  have w16 : v16.toInt = aC A gg x2.toInt.toNat := by
    rw [e16, i15, s10, upd_ne (by omega)]; rfl
  have hc := (hl _ hnode).1
  have n1 : (-1 : Int32).toInt = -1 := rfl
  have hr4 : v4.toInt.toNat = aK A gg + 1 := by omega
  have hx2 : ((x2.toInt.toNat : Nat) : Int) = x2.toInt := by omega
  have hk4 : aK A gg + 1 ≤ 300 := by omega
  have fin : ∀ A' : Nat → Nat → Int32, TK A' → A' 7 = A13 7 → A' 8 = A13 8 → A' 9 = A13 9 → A' 12 = A13 12 → (∀ hh : Nat, hh ≤ 1 → hh ≠ gg → ∀ j, j ≤ 300 → A' 10 (301 * hh + j) = A 10 (301 * hh + j) ∧ A' 11 (301 * hh + j) = A 11 (301 * hh + j)) →
      (∀ j, aC A' gg j = if j = aK A gg + 1 then -1 else if j = x2.toInt.toNat ∧ L x2.toInt.toNat = [] then ((aK A gg + 1 : Nat) : Int) else aC A gg j) → (L x2.toInt.toNat = [] → ∀ j, aN A' gg j = if j = aK A gg + 1 then -1 else aN A gg j) → (∀ h : L x2.toInt.toNat ≠ [], ∀ j, aN A' gg j = if j = (L x2.toInt.toNat).getLast h then ((aK A gg + 1 : Nat) : Int) else if j = aK A gg + 1 then -1 else aN A gg j) →
      TJ I ∧ TK A' ∧ ((1 : Int) ≤ v4.toInt ∧ v4.toInt ≤ (300 : Int)) ∧ TRE A' gg ∧ (∀ hh nb : Nat, hh ≤ 1 → hh ≠ gg → TRH A hh nb → TRH A' hh nb) ∧ AP A A' gg x2.toInt.toNat v4.toInt.toNat ∧ m3 A' x1.toInt v4.toInt := by
    intro A' hA' f7 f8 f9 f12 foth fC fNa fNb
    have hK' : aK A' gg = aK A gg + 1 := by
      show (A' 7 gg).toInt.toNat = _
      rw [f7, s7, upd_self]; exact hr4
    have key := app_tree (A := A) (A' := A') (g := gg) (node := x2.toInt.toNat) (n := aK A gg) (mv := x3.toInt) rfl hb hl hd q3 hK' (fun j => by
        show (A' 8 (301 * gg + j)).toInt = _
        rw [f8, s8, up_j, hx2]; rfl) (fun j => by
        show (A' 9 (301 * gg + j)).toInt = _
        rw [f9, s9, up_j]; rfl) r_x3.1 fC fNa fNb
    refine ⟨hI, hA', by omega, key.1, fun hh nb h1 h2 h3 => ?_, by rw [hr4]; exact key.2, ?_⟩
    · refine ⟨TRE_oth hA (by rw [f7, s7, upd_ne h2]) (fun j hj => by rw [f8, s8, up_o hk4 hj h2]) (fun j hj => by rw [f9, s9, up_o hk4 hj h2]) (fun j hj => (foth hh h1 h2 j hj).1) (fun j hj => (foth hh h1 h2 j hj).2) h3.1, by unfold aK; rw [f7, s7, upd_ne h2]; exact h3.2⟩
    · show (A' 12 (301 * x1.toInt + v4.toInt).toNat).toInt ≤ 3
      rw [f12, s12, show (301 * x1.toInt + v4.toInt).toNat = 301 * gg + (aK A gg + 1) by omega, upd_self]
      decide
  refine ok_if (fun c => ?_) (fun c => ?_)
  · replace c := ti_leP c (show (0 : Int32).toInt = 0 from rfl) rfl
    have hne : L x2.toInt.toNat ≠ [] := fun h => by rw [h] at hc; have : aC A gg x2.toInt.toNat = -1 := hc; omega
    have hmem : ∀ k ∈ L x2.toInt.toNat, 1 ≤ k ∧ k ≤ aK A gg := fun k hk => by have := ((hl _ hnode).2.2 k).mp hk; omega
    have hlen := chn_len hl hnode
    have hlast := hmem _ (List.getLast_mem hne)
    have hc13 : chn (aN A13 gg) (L x2.toInt.toNat) v16.toInt := by
      rw [w16]
      refine chn_congr (fun k hk => ?_) hc
      have := hmem k hk
      show (A13 11 (301 * gg + k)).toInt = _
      rw [s11, upd_ne (by omega)]; rfl
    have hrun := t_append_94 (I := I) (A := A13) hg (L x2.toInt.toNat) hne mFuel x1 v4 v16 q1 (fun k hk => by have := hmem k hk; omega) hc13 (by show _ < 200000; omega)
    refine ⟨_, hrun, ?_⟩
    refine fin (va_up A13 11 (upd (A13 11) (301 * gg + (L x2.toInt.toNat).getLast hne) v4)) (tk_u hA13 (j := 11) (show (-1 : Int) ≤ v4.toInt by omega) (show v4.toInt ≤ (300 : Int) by omega)) (va_up_ne _ _ (by decide)) (va_up_ne _ _ (by decide)) (va_up_ne _ _ (by decide)) (va_up_ne _ _ (by decide)) (fun hh h1 h2 j hj => ?_) (fun j => ?_) (fun h => absurd h hne) (fun _ j => ?_)
    · rw [va_up_ne _ _ (by decide), va_up_self, s10, s11, up_o hk4 hj h2, up_o (by omega) hj h2, up_o hk4 hj h2]
      exact ⟨rfl, rfl⟩
    · show (va_up A13 11 _ 10 (301 * gg + j)).toInt = _
      rw [va_up_ne _ _ (by decide), s10, up_j, n1, if_neg (fun h : j = x2.toInt.toNat ∧ L x2.toInt.toNat = [] => hne h.2)]; rfl
    · show (va_up A13 11 _ 11 (301 * gg + j)).toInt = _
      rw [va_up_self, up_j, s11, up_j, n1, t2]; rfl
  · replace c := ti_leN c (show (0 : Int32).toInt = 0 from rfl) rfl
    have h0 : L x2.toInt.toNat = [] := chn_nil hc (by omega)
    refine ok_bnd (fun v17 e17 => ?_)
    have t17 := ti_mul e17 (show (301 : Int32).toInt = 301 from rfl) q1 (by omega) (by omega)
    refine ok_bnd (fun v18 e18 => ?_)
    have t18 := ti_add e18 t17 rfl (by omega) (by omega)
    have i18 : v18.toNatClampNeg = 301 * gg + x2.toInt.toNat := by have := ti_nc (a := v18) (by omega); omega
    refine ok_chk (ti_in (by omega) (by omega)) ?_
    refine ok_bnd (fun A19 e19 => ?_)
    rw [i18] at e19
    refine ok_ret ?_
    refine fin A19 (e19.symm ▸ tk_u hA13 (j := 10) (show (-1 : Int) ≤ v4.toInt by omega) (show v4.toInt ≤ (300 : Int) by omega)) (by rw [e19]; exact va_up_ne _ _ (by decide)) (by rw [e19]; exact va_up_ne _ _ (by decide)) (by rw [e19]; exact va_up_ne _ _ (by decide)) (by rw [e19]; exact va_up_ne _ _ (by decide)) (fun hh h1 h2 j hj => ?_) (fun j => ?_) (fun _ j => ?_) (fun h => absurd h0 h)
    · rw [e19, va_up_self, va_up_ne _ _ (by decide), s10, s11, up_o (by omega) hj h2, up_o hk4 hj h2, up_o hk4 hj h2]
      exact ⟨rfl, rfl⟩
    · show (A19 10 (301 * gg + j)).toInt = _
      rw [e19, va_up_self, up_j, s10, up_j, n1, t2]
      by_cases e1 : j = x2.toInt.toNat
      · rw [if_pos e1, if_neg (by omega), if_pos ⟨e1, h0⟩]; rfl
      · rw [if_neg e1, if_neg (fun h : j = x2.toInt.toNat ∧ L x2.toInt.toNat = [] => e1 h.1)]; rfl
    · show (A19 11 (301 * gg + j)).toInt = _
      rw [e19, va_up_ne _ _ (by decide), s11, up_j, n1]; rfl
end
section
theorem t_clearGame2 {gg : Nat} {I : Nat → Int32} {A : Nat → Nat → Int32} {x1 : Int32} (hI : TJ I) (hA : TK A) (r_x1 : (0 : Int) ≤ x1.toInt ∧ x1.toInt ≤ (1 : Int)) (q0 : x1.toInt = (gg : Int)) : Ok (f_clearGame x1 I A) (fun o => TJ o.2.1 ∧ TK o.2.2 ∧ (TRE o.2.2 gg) ∧ (∀ hh nb : Nat, hh ≤ 1 → hh ≠ gg → TRH A hh nb → TRH o.2.2 hh nb) ∧ (lnk o.2.2 gg 0 0) ∧ (leaf o.2.2 gg 0)) := by
  have hg : gg ≤ 1 := by omega
  have hix : x1.toNatClampNeg = gg := by have := ti_nc (a := x1) (by omega); omega
  have hcx : ¬ (x1 < 0 ∨ 2 ≤ x1.toNatClampNeg) := ti_in (by omega) (by omega)
  show Ok (f_clearGame_0 x1 I A) _
  unfold f_clearGame_0
  refine ok_chk hcx ?_
  refine ok_bnd (fun A1 e1 => ?_)
  rw [hix] at e1
  have hA1 : TK A1 := e1.symm ▸ tk_u hA (j := 7) (show (0 : Int) ≤ (0 : Int32).toInt by decide) (show (0 : Int32).toInt ≤ (300 : Int) by decide)
  refine ok_chk hcx ?_
  refine ok_bnd (fun A2 e2 => ?_)
  have hA2 : TK A2 := e2.symm ▸ tk_u hA1 (j := 18) (show (0 : Int) ≤ (0 : Int32).toInt by decide) (show (0 : Int32).toInt ≤ (8 : Int) by decide)
  refine ok_chk hcx ?_
  refine ok_bnd (fun A3 e3 => ?_)
  have hA3 : TK A3 := e3.symm ▸ tk_u hA2 (j := 23) (show (-1 : Int) ≤ (0 : Int32).toInt by decide) (show (0 : Int32).toInt ≤ (3 : Int) by decide)
  refine ok_bnd (fun v4 e4 => ?_)
  have t4 := ti_mul e4 (show (301 : Int32).toInt = 301 from rfl) q0 (by omega) (by omega)
  have i4 : v4.toNatClampNeg = 301 * gg + 0 := by have := ti_nc (a := v4) (by omega); omega
  refine ok_clR (clearNode_eq (by omega)) ?_
  rw [i4]
  have hA5 := tk_cNd (i := 301 * gg + 0) hA3
  refine ok_bnd (fun v6 e6 => ?_)
  have t6 := ti_mul e6 (show (301 : Int32).toInt = 301 from rfl) q0 (by omega) (by omega)
  have i6 : v6.toNatClampNeg = 301 * gg + 0 := by have := ti_nc (a := v6) (by omega); omega
  refine ok_chk (ti_in (by omega) (by omega)) ?_
  refine ok_bnd (fun A7 e7 => ?_)
  rw [i6] at e7
  have hA7 : TK A7 := e7.symm ▸ tk_u hA5 (j := 8) (show (-1 : Int) ≤ (-1 : Int32).toInt by decide) (show (-1 : Int32).toInt ≤ (300 : Int) by decide)
  refine ok_bnd (fun v8 e8 => ?_)
  have t8 := ti_mul e8 (show (301 : Int32).toInt = 301 from rfl) q0 (by omega) (by omega)
  have i8 : v8.toNatClampNeg = 301 * gg + 0 := by have := ti_nc (a := v8) (by omega); omega
  refine ok_chk (ti_in (by omega) (by omega)) ?_
  refine ok_bnd (fun A9 e9 => ?_)
  rw [i8] at e9
  have hA9 : TK A9 := e9.symm ▸ tk_u hA7 (j := 9) (show (-1 : Int) ≤ (-1 : Int32).toInt by decide) (show (-1 : Int32).toInt ≤ (24575 : Int) by decide)
  have s7 : A9 7 = upd (A 7) gg 0 := by rw [e9, e7, e3, e2, e1]; rfl
  have s8 : A9 8 = upd (A 8) (301 * gg + 0) (-1) := by rw [e9, e7, e3, e2, e1]; rfl
  have s9 : A9 9 = upd (A 9) (301 * gg + 0) (-1) := by rw [e9, e7, e3, e2, e1]; rfl
  have s10 : A9 10 = upd (A 10) (301 * gg + 0) (-1) := by rw [e9, e7, e3, e2, e1]; rfl
  have s11 : A9 11 = upd (A 11) (301 * gg + 0) (-1) := by rw [e9, e7, e3, e2, e1]; rfl
  have hK : aK A9 gg = 0 := by
    show (A9 7 gg).toInt.toNat = 0
    rw [s7, upd_self]; rfl
  have hC : aC A9 gg 0 = -1 := by
    show (A9 10 (301 * gg + 0)).toInt = -1
    rw [s10, upd_self]; rfl
  refine ok_ret ⟨hI, hA9, by unfold TRE; rw [hK]; exact TT_nil hC, fun hh nb h1 h2 h3 => ?_, ⟨by omega, fun D hD => by rw [hD.1]; exact Int.le_refl _⟩, by unfold leaf; rw [hC]; decide⟩
  refine ⟨TRE_oth (A' := A9) hA (by rw [s7, upd_ne h2]) (fun j hj => by rw [s8, up_o (by omega) hj h2]) (fun j hj => by rw [s9, up_o (by omega) hj h2]) (fun j hj => by rw [s10, up_o (by omega) hj h2]) (fun j hj => by rw [s11, up_o (by omega) hj h2]) h3.1, ?_⟩
  show (A9 7 hh).toInt.toNat = nb
  rw [s7, upd_ne h2]
  exact h3.2
/-- what reading a line leaves of the nodes that were there: nd is the one from which it goes -/
noncomputable def EX (A : Nat → Nat → Int32) (g : Nat) (A0 : Nat → Nat → Int32) (nd : Nat) : Prop := aK A0 g ≤ aK A g ∧ (∀ k d, lnk A0 g k d → lnk A g k d) ∧ (∀ k, k ≤ aK A0 g → k ≠ nd → leaf A0 g k → leaf A g k)
theorem EX_fr {A A' A0 : Nat → Nat → Int32} {g nd : Nat} (e7 : A' 7 = A 7) (e8 : A' 8 = A 8) (e10 : A' 10 = A 10) (h : EX A g A0 nd) : EX A' g A0 nd := by
  have a : aK A' g = aK A g := by unfold aK; rw [e7]
  exact ⟨by rw [a]; exact h.1, fun k d hk => lnk_fr e7 e8 e10 (h.2.1 k d hk), fun k h1 h2 h3 => leaf_fr e10 (h.2.2 k h1 h2 h3)⟩
theorem EX_refl {A : Nat → Nat → Int32} {g nd : Nat} : EX A g A nd := ⟨Nat.le_refl _, fun _ _ h => h, fun _ _ _ h => h⟩
theorem EX_tr {A A' A0 : Nat → Nat → Int32} {g nd nd2 : Nat} (h : EX A g A0 nd) (h2 : EX A' g A nd2) (hc : nd2 = nd ∨ aK A0 g < nd2) : EX A' g A0 nd := ⟨Nat.le_trans h.1 h2.1, fun k d hk => h2.2.1 k d (h.2.1 k d hk), fun k h3 h4 h5 => h2.2.2 k (Nat.le_trans h3 h.1) (fun e => by
  rcases hc with hc | hc
  · exact h4 (by rw [e, hc])
  · omega) (h.2.2 k h3 h4 h5)⟩
theorem EX_ap {A A' A0 : Nat → Nat → Int32} {g nd node r : Nat} (h : EX A g A0 nd) (h2 : AP A A' g node r) (hc : node = nd ∨ aK A0 g < node) : EX A' g A0 nd := EX_tr h ⟨by have := h2.2.1; omega, h2.2.2.1, h2.2.2.2.1⟩ hc
end
